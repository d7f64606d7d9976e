set_option maxHeartbeats 4000000 in
set_option maxRecDepth 100000 in
theorem c_Mo_ended (l : Launch) (D : va_G) (cB cI cJ : ClassId) (t5 : Nat) (ad : Nat → Nat) (mo nb nd un ov xx dc : Nat) (d : Nat → Int32) (pt zl th pw zk : Int) (ma : Int64) (n zr : Int) (X : Nat) (hnm : nm_ok d X) (hpt : -9000000 ≤ pt ∧ pt ≤ 9000000) (h0 : X = 0 → pt = 0) (hk : -2000 ≤ n ∧ n ≤ 2000) (hzr : zr = 0 ∨ zr = 1) (hno : zr = 0 ∨ pt + n < 0 ∨ ((dl X : Nat) : Int) ≤ pt + n ∨ X / 10 ^ (dl X - 1 - (pt + n).toNat) % 10 < 5) : c_I l m_Mo_ended (Cond.code m_Mo_ended b_Mo_ended 5 (some .int) :: gw) (rm_ 2 91) (eX t5 ad) D ecl (tyS cB cI cJ) [.ref mo, .int (iI (n)), .int (iI (zr))] [(mo, .inr (4, [.ref nb, .ref un, .ref ov, .ref xx, .ref dc, .int (iI (zl)), .int (iI (th)), .long (ma), .int (iI (pw)), .int (iI (zk))])), (nb, .inr (3, [.ref nd, .int (iI (((dl X : Nat) : Int))), .int (iI (pt))])), (nd, .inl (cB, 4200, .inl d))] (fun r u => r = iI ((dl (rz (kfY X (pt + n))) : Nat) : Int) ∧ nm_ok d (rz (kfY X (pt + n))) ∧ u = [(mo, .inr (4, [.ref nb, .ref un, .ref ov, .ref xx, .ref dc, .int (iI (0)), .int (iI (0)), .long (ma), .int (iI (pw)), .int (iI (zk))])), (nb, .inr (3, [.ref nd, .int (iI (((dl (rz (kfY X (pt + n))) : Nat) : Int))), .int (iI (if (kfY X (pt + n)) = 0 then 0 else pt))])), (nd, .inl (cB, 4200, .inl d))]) 0 0 := by
  intro sz0
  refine Met.ofW (cc := b_Mo_ended) (maxL := 5) (ret := (some .int)) (by decide) rfl ?_
  intro p e s m args below meth c s₁ B hml hv
  obtain ⟨rfl, hsz, hP, hK, hD0, hE⟩ := hv
  have hx := B.exec
  have hb := B.bytes
  have hr := B.returns
  have hts := atoms_spec (ws := Cond.code m_Mo_ended b_Mo_ended 5 (some .int) :: gw) B.pre
  have hown : s.vm.findClass R_Mo = some m.cls := findClass_of_methodNamed B.named
  have hlocks := B.notSynchronized
  subst hsz
  have hD := hD0.self (sz := s.heap.size)
  generalize hAe : va_A [(mo, .inr (4, [.ref nb, .ref un, .ref ov, .ref xx, .ref dc, .int (iI (zl)), .int (iI (th)), .long (ma), .int (iI (pw)), .int (iI (zk))])), (nb, .inr (3, [.ref nd, .int (iI (((dl X : Nat) : Int))), .int (iI (pt))])), (nd, .inl (cB, 4200, .inl d))] s.heap.size = A at hD hE ⊢
  have hA : ∀ q : Nat, s.heap.size ≤ q → A q := fun q h => by rw [← hAe]; exact Or.inr h
  have hS : va_S A s.heap s.heap [] := va_S.rf
  have hl := lv_entry ([.ref mo, .int (iI (n)), .int (iI (zr))]) (n := 5) (Nat.le_of_ble_eq_true rfl)
  rw [lg_entry_eq]
  generalize (lg_sl ([.ref mo, .int (iI (n)), .int (iI (zr))]) ++ List.replicate (5 - (lg_sl ([.ref mo, .int (iI (n)), .int (iI (zr))])).length) Slot.unset).toArray = ls at hl ⊢
  have hl : lv_has ls 5 [(0, .ref mo), (1, .int (iI (n))), (2, .int (iI (zr)))] := hl
  have hk9 := kf_ok (n := pt + n) hnm
  have hd12 := hnm.1
  refine lv_aload_n hx hb d_Mo_ended_0 rfl (lv_at hl 0 rfl) ?_
  refine lv_iload_n hx hb d_Mo_ended_1 rfl (lv_at hl 1 rfl) ?_
  refine lv_sipush (v := iI (-2000)) hx hb d_Mo_ended_2 (by decide +kernel) ?_
  refine ed_icmp_lt (tgt := 15) hx hb d_Mo_ended_5 rfl (by omega) (by omega) (fun h_1 => ?_) (fun h_1 => ?_)
  · exact absurd h_1 (by omega)
  · skip
    refine ed_pc (pc' := 8) rfl ?_
    refine lv_iload_n hx hb d_Mo_ended_8 rfl (lv_at hl 1 rfl) ?_
    refine lv_sipush (v := iI 2000) hx hb d_Mo_ended_9 (by decide +kernel) ?_
    refine ed_icmp_le (tgt := 19) hx hb d_Mo_ended_12 rfl (by omega) (by omega) (fun h_2 => ?_) (fun h_2 => ?_)
    · skip
      refine ed_pc (pc' := 19) rfl ?_
      refine ed_pc (pc' := 19) rfl ?_
      refine lv_iconst (v := iI 0) hx hb d_Mo_ended_19 rfl ?_
      refine va_put (D := D) (ci := 4) (v := .int (iI (0))) (ty := .int) (C := R_Mo) (T := T_Mo) (N := 10) hx hb hts (fun w h => List.mem_cons_of_mem _ (in_Mo w h)) y_Mo t_Mo n_Mo hown hK hP hD hS 0 rfl rfl 6 (by decide) (hts _ (List.mem_cons_of_mem _ tw_396)) (fun _ h9 => h9) rfl (by decide +kernel) rfl rfl (Nat.le_of_ble_eq_true rfl) d_Mo_ended_20 (fun H locs hP hD hS => ?_)
      have hP : va_P D ecl [(mo, .inr (4, [.ref nb, .ref un, .ref ov, .ref xx, .ref dc, .int (iI (zl)), .int (iI (0)), .long (ma), .int (iI (pw)), .int (iI (zk))])), (nb, .inr (3, [.ref nd, .int (iI (((dl X : Nat) : Int))), .int (iI (pt))])), (nd, .inl (cB, 4200, .inl d))] H := hP
      have hD : va_D A [(mo, .inr (4, [.ref nb, .ref un, .ref ov, .ref xx, .ref dc, .int (iI (zl)), .int (iI (0)), .long (ma), .int (iI (pw)), .int (iI (zk))])), (nb, .inr (3, [.ref nd, .int (iI (((dl X : Nat) : Int))), .int (iI (pt))])), (nd, .inl (cB, 4200, .inl d))] := hD
      refine lv_aload_n hx hb d_Mo_ended_23 rfl (lv_at hl 0 rfl) ?_
      refine va_get (D := D) (ci := 4) (v := .int (iI (0))) (C := R_Mo) (T := T_Mo) (N := 10) hx hb hts (fun w h => List.mem_cons_of_mem _ (in_Mo w h)) hown hK hP 0 rfl rfl 6 (by decide) (hts _ (List.mem_cons_of_mem _ tw_396)) (fun _ h9 => h9) rfl d_Mo_ended_24 ?_
      refine ed_if_le (tgt := 32) hx hb d_Mo_ended_27 rfl (by omega) (fun h_3 => ?_) (fun h_3 => ?_)
      · skip
        refine ed_pc (pc' := 32) rfl ?_
        refine lv_aload_n hx hb d_Mo_ended_32 rfl (lv_at hl 0 rfl) ?_
        refine va_get (D := D) (ci := 4) (v := .ref nb) (C := R_Mo) (T := T_Mo) (N := 10) hx hb hts (fun w h => List.mem_cons_of_mem _ (in_Mo w h)) hown hK hP 0 rfl rfl 0 (by decide) (hts _ (List.mem_cons_of_mem _ tw_390)) (fun _ h9 => h9) rfl d_Mo_ended_33 ?_
        refine va_get (D := D) (ci := 3) (v := .int (iI (pt))) (C := R_Ro) (T := T_Ro) (N := 3) hx hb hts (fun w h => List.mem_cons_of_mem _ (in_Ro w h)) hown hK hP 1 rfl rfl 2 (by decide) (hts _ (List.mem_cons_of_mem _ tw_364)) (fun _ h9 => h9) rfl d_Mo_ended_36 ?_
        refine ed_pc (pc' := 39) rfl ?_
        refine lv_iload_n hx hb d_Mo_ended_39 rfl (lv_at hl 1 rfl) ?_
        refine ed_iadd hx hb d_Mo_ended_40 ?_
        refine lv_istore_n hx hb d_Mo_ended_41 rfl hl (by decide) rfl (fun ls hl => ?_)
        have hl : lv_has ls 5 [(3, .int (iI ((pt) + (n)))), (0, .ref mo), (1, .int (iI (n))), (2, .int (iI (zr)))] := hl
        refine lv_aload_n hx hb d_Mo_ended_42 rfl (lv_at hl 1 rfl) ?_
        refine lv_iconst (v := iI 0) hx hb d_Mo_ended_43 rfl ?_
        refine va_put (D := D) (ci := 4) (v := .int (iI (0))) (ty := .boolean) (C := R_Mo) (T := T_Mo) (N := 10) hx hb hts (fun w h => List.mem_cons_of_mem _ (in_Mo w h)) y_Mo t_Mo n_Mo hown hK hP hD hS 0 rfl rfl 5 (by decide) (hts _ (List.mem_cons_of_mem _ tw_395)) (fun _ h9 => h9) rfl (by decide +kernel) (by decide +kernel) (by decide +kernel) (Nat.le_of_ble_eq_true rfl) d_Mo_ended_44 (fun H locs hP hD hS => ?_)
        have hP : va_P D ecl [(mo, .inr (4, [.ref nb, .ref un, .ref ov, .ref xx, .ref dc, .int (iI (0)), .int (iI (0)), .long (ma), .int (iI (pw)), .int (iI (zk))])), (nb, .inr (3, [.ref nd, .int (iI (((dl X : Nat) : Int))), .int (iI (pt))])), (nd, .inl (cB, 4200, .inl d))] H := hP
        have hD : va_D A [(mo, .inr (4, [.ref nb, .ref un, .ref ov, .ref xx, .ref dc, .int (iI (0)), .int (iI (0)), .long (ma), .int (iI (pw)), .int (iI (zk))])), (nb, .inr (3, [.ref nd, .int (iI (((dl X : Nat) : Int))), .int (iI (pt))])), (nd, .inl (cB, 4200, .inl d))] := hD
        refine lv_iload_n hx hb d_Mo_ended_47 rfl (lv_at hl 0 rfl) ?_
        refine lv_aload_n hx hb d_Mo_ended_48 rfl (lv_at hl 1 rfl) ?_
        refine ed_pc (pc' := 49) rfl ?_
        refine va_get (D := D) (ci := 4) (v := .ref nb) (C := R_Mo) (T := T_Mo) (N := 10) hx hb hts (fun w h => List.mem_cons_of_mem _ (in_Mo w h)) hown hK hP 0 rfl rfl 0 (by decide) (hts _ (List.mem_cons_of_mem _ tw_390)) (fun _ h9 => h9) rfl d_Mo_ended_49 ?_
        refine va_get (D := D) (ci := 3) (v := .int (iI (((dl X : Nat) : Int)))) (C := R_Ro) (T := T_Ro) (N := 3) hx hb hts (fun w h => List.mem_cons_of_mem _ (in_Ro w h)) hown hK hP 1 rfl rfl 1 (by decide) (hts _ (List.mem_cons_of_mem _ tw_362)) (fun _ h9 => h9) rfl d_Mo_ended_52 ?_
        refine ed_icmp_lt (tgt := 66) hx hb d_Mo_ended_55 rfl (by omega) (by omega) (fun h_4 => ?_) (fun h_4 => ?_)
        · skip
          refine ed_pc (pc' := 66) rfl ?_
          refine lv_iload_n hx hb d_Mo_ended_66 rfl (lv_at hl 3 rfl) ?_
          refine ed_if_eq (tgt := 91) hx hb d_Mo_ended_67 rfl (by omega) (fun h_5 => ?_) (fun h_5 => ?_)
          · skip
            refine ed_pc (pc' := 91) rfl ?_
            refine lv_iconst (v := iI 0) hx hb d_Mo_ended_91 rfl ?_
            refine lv_istore hx hb d_Mo_ended_92 hl (by decide) rfl (fun ls hl => ?_)
            have hl : lv_has ls 5 [(4, .int (iI (0))), (3, .int (iI ((pt) + (n)))), (0, .ref mo), (1, .int (iI (n))), (2, .int (iI (zr)))] := hl
            refine lv_aload_n hx hb d_Mo_ended_94 rfl (lv_at hl 2 rfl) ?_
            refine ed_pc (pc' := 95) rfl ?_
            refine va_get (D := D) (ci := 4) (v := .ref nb) (C := R_Mo) (T := T_Mo) (N := 10) hx hb hts (fun w h => List.mem_cons_of_mem _ (in_Mo w h)) hown hK hP 0 rfl rfl 0 (by decide) (hts _ (List.mem_cons_of_mem _ tw_390)) (fun _ h9 => h9) rfl d_Mo_ended_95 ?_
            refine lv_iload_n hx hb d_Mo_ended_98 rfl (lv_at hl 1 rfl) ?_
            refine lv_iconst (v := iI 0) hx hb d_Mo_ended_99 rfl ?_
            refine ed_max hx hb (hml.trans hl.1.symm) hown (hts _ (List.mem_cons_of_mem _ tw_453)) (hts _ (List.mem_cons_of_mem _ tw_146)) (hts _ (List.mem_cons_of_mem _ tw_6)) (hts _ (List.mem_cons_of_mem _ tw_147)) (Nat.le_of_ble_eq_true rfl) (Nat.le_of_ble_eq_true rfl) (Nat.le_of_ble_eq_true rfl) (Nat.le_of_ble_eq_true rfl) (by omega) (by omega) d_Mo_ended_100 ?_
            refine ed_tz (y := ((dl (kfY X (pt + n)) : Nat) : Int)) (by rw [kf_dl]; omega) ?_
            refine va_put (D := D) (ci := 3) (v := .int (iI (((dl (kfY X (pt + n)) : Nat) : Int)))) (ty := .int) (C := R_Ro) (T := T_Ro) (N := 3) hx hb hts (fun w h => List.mem_cons_of_mem _ (in_Ro w h)) y_Ro t_Ro n_Ro hown hK hP hD hS 1 rfl rfl 1 (by decide) (hts _ (List.mem_cons_of_mem _ tw_362)) (fun _ h9 => h9) rfl (by decide +kernel) rfl rfl (Nat.le_of_ble_eq_true rfl) d_Mo_ended_103 (fun H locs hP hD hS => ?_)
            have hP : va_P D ecl [(mo, .inr (4, [.ref nb, .ref un, .ref ov, .ref xx, .ref dc, .int (iI (0)), .int (iI (0)), .long (ma), .int (iI (pw)), .int (iI (zk))])), (nb, .inr (3, [.ref nd, .int (iI (((dl (kfY X (pt + n)) : Nat) : Int))), .int (iI (pt))])), (nd, .inl (cB, 4200, .inl d))] H := hP
            have hD : va_D A [(mo, .inr (4, [.ref nb, .ref un, .ref ov, .ref xx, .ref dc, .int (iI (0)), .int (iI (0)), .long (ma), .int (iI (pw)), .int (iI (zk))])), (nb, .inr (3, [.ref nd, .int (iI (((dl (kfY X (pt + n)) : Nat) : Int))), .int (iI (pt))])), (nd, .inl (cB, 4200, .inl d))] := hD
            refine lv_iload hx hb d_Mo_ended_106 (lv_at hl 0 rfl) ?_
            refine ed_if_eq (tgt := 118) hx hb d_Mo_ended_108 rfl (by omega) (fun h_6 => ?_) (fun h_6 => ?_)
            · skip
              refine ed_pc (pc' := 118) rfl ?_
              refine lv_aload_n hx hb d_Mo_ended_118 rfl (lv_at hl 2 rfl) ?_
              refine ed_pc (pc' := 119) rfl ?_
              refine va_get (D := D) (ci := 4) (v := .ref nb) (C := R_Mo) (T := T_Mo) (N := 10) hx hb hts (fun w h => List.mem_cons_of_mem _ (in_Mo w h)) hown hK hP 0 rfl rfl 0 (by decide) (hts _ (List.mem_cons_of_mem _ tw_390)) (fun _ h9 => h9) rfl d_Mo_ended_119 ?_
              refine c_fv (wc := [(nb, .inr (3, [.ref nd, .int (iI (((dl (kfY X (pt + n)) : Nat) : Int))), .int (iI (pt))])), (nd, .inl (cB, 4200, .inl d))]) (wr := [(mo, .inr (4, [.ref nb, .ref un, .ref ov, .ref xx, .ref dc, .int (iI (0)), .int (iI (0)), .long (ma), .int (iI (pw)), .int (iI (zk))]))]) (va_runV (C := "ExactDigitsModel$Row") (As := []) (rest := []) ⟨hx, hb, hml, hown, hts⟩ (c_Ro_trim l D cB cI cJ t5 ad nb nd d pt (kfY X (pt + n)) (by omega) hk9.2 H.size) (cwV 0 hts (gV tw_480 tw_442 tw_443 tw_4 tw_444) rfl rfl rfl (by decide +kernel) ⟨Nat.le_of_ble_eq_true rfl, Nat.le_of_ble_eq_true rfl⟩) ⟨c_blind (eX_X t5 ad), va_recv (ci := 3) (q0 := 1) hK hP rfl rfl, fun U hU hW => c_pre (wc := [(nb, .inr (3, [.ref nd, .int (iI (((dl (kfY X (pt + n)) : Nat) : Int))), .int (iI (pt))])), (nd, .inl (cB, 4200, .inl d))]) (eX_X t5 ad) hE hK hP hD hS hA [1, 2] rfl (by decide) U hU hW⟩ rfl rfl hl.1 rfl (lv_room (Nat.le_of_ble_eq_true rfl)) d_Mo_ended_122 ⟨Nat.le_of_ble_eq_true rfl, Nat.le_of_ble_eq_true rfl⟩) hP hD hS hA [1, 2] [0] rfl rfl (by decide) (by decide) (fun u H locs hp hP hD hS => ?_)
              obtain ⟨hdz, rfl⟩ := hp
              have hP : va_P D ecl [(mo, .inr (4, [.ref nb, .ref un, .ref ov, .ref xx, .ref dc, .int (iI (0)), .int (iI (0)), .long (ma), .int (iI (pw)), .int (iI (zk))])), (nb, .inr (3, [.ref nd, .int (iI (((dl (rz (kfY X (pt + n))) : Nat) : Int))), .int (iI (if (kfY X (pt + n)) = 0 then 0 else pt))])), (nd, .inl (cB, 4200, .inl d))] H := hP
              have hD : va_D A [(mo, .inr (4, [.ref nb, .ref un, .ref ov, .ref xx, .ref dc, .int (iI (0)), .int (iI (0)), .long (ma), .int (iI (pw)), .int (iI (zk))])), (nb, .inr (3, [.ref nd, .int (iI (((dl (rz (kfY X (pt + n))) : Nat) : Int))), .int (iI (if (kfY X (pt + n)) = 0 then 0 else pt))])), (nd, .inl (cB, 4200, .inl d))] := hD
              refine lv_aload_n hx hb d_Mo_ended_125 rfl (lv_at hl 2 rfl) ?_
              refine va_get (D := D) (ci := 4) (v := .ref nb) (C := R_Mo) (T := T_Mo) (N := 10) hx hb hts (fun w h => List.mem_cons_of_mem _ (in_Mo w h)) hown hK hP 0 rfl rfl 0 (by decide) (hts _ (List.mem_cons_of_mem _ tw_390)) (fun _ h9 => h9) rfl d_Mo_ended_126 ?_
              refine va_get (D := D) (ci := 3) (v := .int (iI (((dl (rz (kfY X (pt + n))) : Nat) : Int)))) (C := R_Ro) (T := T_Ro) (N := 3) hx hb hts (fun w h => List.mem_cons_of_mem _ (in_Ro w h)) hown hK hP 1 rfl rfl 1 (by decide) (hts _ (List.mem_cons_of_mem _ tw_362)) (fun _ h9 => h9) rfl d_Mo_ended_129 ?_
              exact W.iret (v := (iI (((dl (rz (kfY X (pt + n))) : Nat) : Int)))) hx hb hr (fun t9 ht9 hW9 => ⟨⟨(iI (((dl (rz (kfY X (pt + n))) : Nat) : Int))), [(mo, .inr (4, [.ref nb, .ref un, .ref ov, .ref xx, .ref dc, .int (iI (0)), .int (iI (0)), .long (ma), .int (iI (pw)), .int (iI (zk))])), (nb, .inr (3, [.ref nd, .int (iI (((dl (rz (kfY X (pt + n))) : Nat) : Int))), .int (iI (if (kfY X (pt + n)) = 0 then 0 else pt))])), (nd, .inl (cB, 4200, .inl d))], rfl, ⟨rfl, nm_rz hk9.1 hdz, rfl⟩, by rw [ht9]; exact hP, hD⟩, hS.F ht9⟩) hS.2.2 d_Mo_ended_132
            · exact absurd h_6 (by omega)
          · skip
            refine ed_pc (pc' := 70) rfl ?_
            refine lv_iload_n hx hb d_Mo_ended_70 rfl (lv_at hl 0 rfl) ?_
            refine ed_if_lt (tgt := 91) hx hb d_Mo_ended_71 rfl (by omega) (fun h_7 => ?_) (fun h_7 => ?_)
            · skip
              refine ed_pc (pc' := 91) rfl ?_
              refine lv_iconst (v := iI 0) hx hb d_Mo_ended_91 rfl ?_
              refine ed_pc (pc' := 92) rfl ?_
              refine lv_istore hx hb d_Mo_ended_92 hl (by decide) rfl (fun ls hl => ?_)
              have hl : lv_has ls 5 [(4, .int (iI (0))), (3, .int (iI ((pt) + (n)))), (0, .ref mo), (1, .int (iI (n))), (2, .int (iI (zr)))] := hl
              refine lv_aload_n hx hb d_Mo_ended_94 rfl (lv_at hl 2 rfl) ?_
              refine va_get (D := D) (ci := 4) (v := .ref nb) (C := R_Mo) (T := T_Mo) (N := 10) hx hb hts (fun w h => List.mem_cons_of_mem _ (in_Mo w h)) hown hK hP 0 rfl rfl 0 (by decide) (hts _ (List.mem_cons_of_mem _ tw_390)) (fun _ h9 => h9) rfl d_Mo_ended_95 ?_
              refine lv_iload_n hx hb d_Mo_ended_98 rfl (lv_at hl 1 rfl) ?_
              refine lv_iconst (v := iI 0) hx hb d_Mo_ended_99 rfl ?_
              refine ed_max hx hb (hml.trans hl.1.symm) hown (hts _ (List.mem_cons_of_mem _ tw_453)) (hts _ (List.mem_cons_of_mem _ tw_146)) (hts _ (List.mem_cons_of_mem _ tw_6)) (hts _ (List.mem_cons_of_mem _ tw_147)) (Nat.le_of_ble_eq_true rfl) (Nat.le_of_ble_eq_true rfl) (Nat.le_of_ble_eq_true rfl) (Nat.le_of_ble_eq_true rfl) (by omega) (by omega) d_Mo_ended_100 ?_
              refine ed_tz (y := ((dl (kfY X (pt + n)) : Nat) : Int)) (by rw [kf_dl]; omega) ?_
              refine va_put (D := D) (ci := 3) (v := .int (iI (((dl (kfY X (pt + n)) : Nat) : Int)))) (ty := .int) (C := R_Ro) (T := T_Ro) (N := 3) hx hb hts (fun w h => List.mem_cons_of_mem _ (in_Ro w h)) y_Ro t_Ro n_Ro hown hK hP hD hS 1 rfl rfl 1 (by decide) (hts _ (List.mem_cons_of_mem _ tw_362)) (fun _ h9 => h9) rfl (by decide +kernel) rfl rfl (Nat.le_of_ble_eq_true rfl) d_Mo_ended_103 (fun H locs hP hD hS => ?_)
              have hP : va_P D ecl [(mo, .inr (4, [.ref nb, .ref un, .ref ov, .ref xx, .ref dc, .int (iI (0)), .int (iI (0)), .long (ma), .int (iI (pw)), .int (iI (zk))])), (nb, .inr (3, [.ref nd, .int (iI (((dl (kfY X (pt + n)) : Nat) : Int))), .int (iI (pt))])), (nd, .inl (cB, 4200, .inl d))] H := hP
              have hD : va_D A [(mo, .inr (4, [.ref nb, .ref un, .ref ov, .ref xx, .ref dc, .int (iI (0)), .int (iI (0)), .long (ma), .int (iI (pw)), .int (iI (zk))])), (nb, .inr (3, [.ref nd, .int (iI (((dl (kfY X (pt + n)) : Nat) : Int))), .int (iI (pt))])), (nd, .inl (cB, 4200, .inl d))] := hD
              refine lv_iload hx hb d_Mo_ended_106 (lv_at hl 0 rfl) ?_
              refine ed_pc (pc' := 108) rfl ?_
              refine ed_if_eq (tgt := 118) hx hb d_Mo_ended_108 rfl (by omega) (fun h_8 => ?_) (fun h_8 => ?_)
              · skip
                refine ed_pc (pc' := 118) rfl ?_
                refine lv_aload_n hx hb d_Mo_ended_118 rfl (lv_at hl 2 rfl) ?_
                refine va_get (D := D) (ci := 4) (v := .ref nb) (C := R_Mo) (T := T_Mo) (N := 10) hx hb hts (fun w h => List.mem_cons_of_mem _ (in_Mo w h)) hown hK hP 0 rfl rfl 0 (by decide) (hts _ (List.mem_cons_of_mem _ tw_390)) (fun _ h9 => h9) rfl d_Mo_ended_119 ?_
                refine c_fv (wc := [(nb, .inr (3, [.ref nd, .int (iI (((dl (kfY X (pt + n)) : Nat) : Int))), .int (iI (pt))])), (nd, .inl (cB, 4200, .inl d))]) (wr := [(mo, .inr (4, [.ref nb, .ref un, .ref ov, .ref xx, .ref dc, .int (iI (0)), .int (iI (0)), .long (ma), .int (iI (pw)), .int (iI (zk))]))]) (va_runV (C := "ExactDigitsModel$Row") (As := []) (rest := []) ⟨hx, hb, hml, hown, hts⟩ (c_Ro_trim l D cB cI cJ t5 ad nb nd d pt (kfY X (pt + n)) (by omega) hk9.2 H.size) (cwV 0 hts (gV tw_480 tw_442 tw_443 tw_4 tw_444) rfl rfl rfl (by decide +kernel) ⟨Nat.le_of_ble_eq_true rfl, Nat.le_of_ble_eq_true rfl⟩) ⟨c_blind (eX_X t5 ad), va_recv (ci := 3) (q0 := 1) hK hP rfl rfl, fun U hU hW => c_pre (wc := [(nb, .inr (3, [.ref nd, .int (iI (((dl (kfY X (pt + n)) : Nat) : Int))), .int (iI (pt))])), (nd, .inl (cB, 4200, .inl d))]) (eX_X t5 ad) hE hK hP hD hS hA [1, 2] rfl (by decide) U hU hW⟩ rfl rfl hl.1 rfl (lv_room (Nat.le_of_ble_eq_true rfl)) d_Mo_ended_122 ⟨Nat.le_of_ble_eq_true rfl, Nat.le_of_ble_eq_true rfl⟩) hP hD hS hA [1, 2] [0] rfl rfl (by decide) (by decide) (fun u H locs hp hP hD hS => ?_)
                obtain ⟨hdz, rfl⟩ := hp
                have hP : va_P D ecl [(mo, .inr (4, [.ref nb, .ref un, .ref ov, .ref xx, .ref dc, .int (iI (0)), .int (iI (0)), .long (ma), .int (iI (pw)), .int (iI (zk))])), (nb, .inr (3, [.ref nd, .int (iI (((dl (rz (kfY X (pt + n))) : Nat) : Int))), .int (iI (if (kfY X (pt + n)) = 0 then 0 else pt))])), (nd, .inl (cB, 4200, .inl d))] H := hP
                have hD : va_D A [(mo, .inr (4, [.ref nb, .ref un, .ref ov, .ref xx, .ref dc, .int (iI (0)), .int (iI (0)), .long (ma), .int (iI (pw)), .int (iI (zk))])), (nb, .inr (3, [.ref nd, .int (iI (((dl (rz (kfY X (pt + n))) : Nat) : Int))), .int (iI (if (kfY X (pt + n)) = 0 then 0 else pt))])), (nd, .inl (cB, 4200, .inl d))] := hD
                refine lv_aload_n hx hb d_Mo_ended_125 rfl (lv_at hl 2 rfl) ?_
                refine va_get (D := D) (ci := 4) (v := .ref nb) (C := R_Mo) (T := T_Mo) (N := 10) hx hb hts (fun w h => List.mem_cons_of_mem _ (in_Mo w h)) hown hK hP 0 rfl rfl 0 (by decide) (hts _ (List.mem_cons_of_mem _ tw_390)) (fun _ h9 => h9) rfl d_Mo_ended_126 ?_
                refine va_get (D := D) (ci := 3) (v := .int (iI (((dl (rz (kfY X (pt + n))) : Nat) : Int)))) (C := R_Ro) (T := T_Ro) (N := 3) hx hb hts (fun w h => List.mem_cons_of_mem _ (in_Ro w h)) hown hK hP 1 rfl rfl 1 (by decide) (hts _ (List.mem_cons_of_mem _ tw_362)) (fun _ h9 => h9) rfl d_Mo_ended_129 ?_
                exact W.iret (v := (iI (((dl (rz (kfY X (pt + n))) : Nat) : Int)))) hx hb hr (fun t9 ht9 hW9 => ⟨⟨(iI (((dl (rz (kfY X (pt + n))) : Nat) : Int))), [(mo, .inr (4, [.ref nb, .ref un, .ref ov, .ref xx, .ref dc, .int (iI (0)), .int (iI (0)), .long (ma), .int (iI (pw)), .int (iI (zk))])), (nb, .inr (3, [.ref nd, .int (iI (((dl (rz (kfY X (pt + n))) : Nat) : Int))), .int (iI (if (kfY X (pt + n)) = 0 then 0 else pt))])), (nd, .inl (cB, 4200, .inl d))], rfl, ⟨rfl, nm_rz hk9.1 hdz, rfl⟩, by rw [ht9]; exact hP, hD⟩, hS.F ht9⟩) hS.2.2 d_Mo_ended_132
              · exact absurd h_8 (by omega)
            · skip
              refine ed_pc (pc' := 74) rfl ?_
              obtain ⟨e9, he9⟩ : ∃ e9 : Nat, e9 = X / 10 ^ (dl X - 1 - (pt + n).toNat) % 10 := ⟨_, rfl⟩
              rw [← he9] at hno
              refine lv_aload_n hx hb d_Mo_ended_74 rfl (lv_at hl 1 rfl) ?_
              refine ed_pc (pc' := 75) rfl ?_
              refine va_get (D := D) (ci := 4) (v := .ref nb) (C := R_Mo) (T := T_Mo) (N := 10) hx hb hts (fun w h => List.mem_cons_of_mem _ (in_Mo w h)) hown hK hP 0 rfl rfl 0 (by decide) (hts _ (List.mem_cons_of_mem _ tw_390)) (fun _ h9 => h9) rfl d_Mo_ended_75 ?_
              refine va_get (D := D) (ci := 3) (v := .ref nd) (C := R_Ro) (T := T_Ro) (N := 3) hx hb hts (fun w h => List.mem_cons_of_mem _ (in_Ro w h)) hown hK hP 1 rfl rfl 0 (by decide) (hts _ (List.mem_cons_of_mem _ tw_360)) (fun _ h9 => h9) rfl d_Mo_ended_78 ?_
              refine lv_iload_n hx hb d_Mo_ended_81 rfl (lv_at hl 0 rfl) ?_
              refine ed_bald (y := (e9 : Int)) hx hb hK hP 2 0 rfl rfl ((pt + n).toNat) (by omega) (by omega) (by decide) (by rw [he9]; exact hnm.2.2 _ (by omega)) d_Mo_ended_82 ?_
              refine lv_iconst (v := iI 5) hx hb d_Mo_ended_83 rfl ?_
              refine ed_icmp_lt (tgt := 91) hx hb d_Mo_ended_84 rfl (by omega) (by omega) (fun h_9 => ?_) (fun h_9 => ?_)
              · skip
                refine ed_pc (pc' := 91) rfl ?_
                refine lv_iconst (v := iI 0) hx hb d_Mo_ended_91 rfl ?_
                refine lv_istore hx hb d_Mo_ended_92 hl (by decide) rfl (fun ls hl => ?_)
                have hl : lv_has ls 5 [(4, .int (iI (0))), (3, .int (iI ((pt) + (n)))), (0, .ref mo), (1, .int (iI (n))), (2, .int (iI (zr)))] := hl
                refine ed_pc (pc' := 94) rfl ?_
                refine lv_aload_n hx hb d_Mo_ended_94 rfl (lv_at hl 2 rfl) ?_
                refine va_get (D := D) (ci := 4) (v := .ref nb) (C := R_Mo) (T := T_Mo) (N := 10) hx hb hts (fun w h => List.mem_cons_of_mem _ (in_Mo w h)) hown hK hP 0 rfl rfl 0 (by decide) (hts _ (List.mem_cons_of_mem _ tw_390)) (fun _ h9 => h9) rfl d_Mo_ended_95 ?_
                refine lv_iload_n hx hb d_Mo_ended_98 rfl (lv_at hl 1 rfl) ?_
                refine lv_iconst (v := iI 0) hx hb d_Mo_ended_99 rfl ?_
                refine ed_max hx hb (hml.trans hl.1.symm) hown (hts _ (List.mem_cons_of_mem _ tw_453)) (hts _ (List.mem_cons_of_mem _ tw_146)) (hts _ (List.mem_cons_of_mem _ tw_6)) (hts _ (List.mem_cons_of_mem _ tw_147)) (Nat.le_of_ble_eq_true rfl) (Nat.le_of_ble_eq_true rfl) (Nat.le_of_ble_eq_true rfl) (Nat.le_of_ble_eq_true rfl) (by omega) (by omega) d_Mo_ended_100 ?_
                refine ed_tz (y := ((dl (kfY X (pt + n)) : Nat) : Int)) (by rw [kf_dl]; omega) ?_
                refine va_put (D := D) (ci := 3) (v := .int (iI (((dl (kfY X (pt + n)) : Nat) : Int)))) (ty := .int) (C := R_Ro) (T := T_Ro) (N := 3) hx hb hts (fun w h => List.mem_cons_of_mem _ (in_Ro w h)) y_Ro t_Ro n_Ro hown hK hP hD hS 1 rfl rfl 1 (by decide) (hts _ (List.mem_cons_of_mem _ tw_362)) (fun _ h9 => h9) rfl (by decide +kernel) rfl rfl (Nat.le_of_ble_eq_true rfl) d_Mo_ended_103 (fun H locs hP hD hS => ?_)
                have hP : va_P D ecl [(mo, .inr (4, [.ref nb, .ref un, .ref ov, .ref xx, .ref dc, .int (iI (0)), .int (iI (0)), .long (ma), .int (iI (pw)), .int (iI (zk))])), (nb, .inr (3, [.ref nd, .int (iI (((dl (kfY X (pt + n)) : Nat) : Int))), .int (iI (pt))])), (nd, .inl (cB, 4200, .inl d))] H := hP
                have hD : va_D A [(mo, .inr (4, [.ref nb, .ref un, .ref ov, .ref xx, .ref dc, .int (iI (0)), .int (iI (0)), .long (ma), .int (iI (pw)), .int (iI (zk))])), (nb, .inr (3, [.ref nd, .int (iI (((dl (kfY X (pt + n)) : Nat) : Int))), .int (iI (pt))])), (nd, .inl (cB, 4200, .inl d))] := hD
                refine lv_iload hx hb d_Mo_ended_106 (lv_at hl 0 rfl) ?_
                refine ed_if_eq (tgt := 118) hx hb d_Mo_ended_108 rfl (by omega) (fun h_10 => ?_) (fun h_10 => ?_)
                · skip
                  refine ed_pc (pc' := 118) rfl ?_
                  refine ed_pc (pc' := 118) rfl ?_
                  refine lv_aload_n hx hb d_Mo_ended_118 rfl (lv_at hl 2 rfl) ?_
                  refine va_get (D := D) (ci := 4) (v := .ref nb) (C := R_Mo) (T := T_Mo) (N := 10) hx hb hts (fun w h => List.mem_cons_of_mem _ (in_Mo w h)) hown hK hP 0 rfl rfl 0 (by decide) (hts _ (List.mem_cons_of_mem _ tw_390)) (fun _ h9 => h9) rfl d_Mo_ended_119 ?_
                  refine c_fv (wc := [(nb, .inr (3, [.ref nd, .int (iI (((dl (kfY X (pt + n)) : Nat) : Int))), .int (iI (pt))])), (nd, .inl (cB, 4200, .inl d))]) (wr := [(mo, .inr (4, [.ref nb, .ref un, .ref ov, .ref xx, .ref dc, .int (iI (0)), .int (iI (0)), .long (ma), .int (iI (pw)), .int (iI (zk))]))]) (va_runV (C := "ExactDigitsModel$Row") (As := []) (rest := []) ⟨hx, hb, hml, hown, hts⟩ (c_Ro_trim l D cB cI cJ t5 ad nb nd d pt (kfY X (pt + n)) (by omega) hk9.2 H.size) (cwV 0 hts (gV tw_480 tw_442 tw_443 tw_4 tw_444) rfl rfl rfl (by decide +kernel) ⟨Nat.le_of_ble_eq_true rfl, Nat.le_of_ble_eq_true rfl⟩) ⟨c_blind (eX_X t5 ad), va_recv (ci := 3) (q0 := 1) hK hP rfl rfl, fun U hU hW => c_pre (wc := [(nb, .inr (3, [.ref nd, .int (iI (((dl (kfY X (pt + n)) : Nat) : Int))), .int (iI (pt))])), (nd, .inl (cB, 4200, .inl d))]) (eX_X t5 ad) hE hK hP hD hS hA [1, 2] rfl (by decide) U hU hW⟩ rfl rfl hl.1 rfl (lv_room (Nat.le_of_ble_eq_true rfl)) d_Mo_ended_122 ⟨Nat.le_of_ble_eq_true rfl, Nat.le_of_ble_eq_true rfl⟩) hP hD hS hA [1, 2] [0] rfl rfl (by decide) (by decide) (fun u H locs hp hP hD hS => ?_)
                  obtain ⟨hdz, rfl⟩ := hp
                  have hP : va_P D ecl [(mo, .inr (4, [.ref nb, .ref un, .ref ov, .ref xx, .ref dc, .int (iI (0)), .int (iI (0)), .long (ma), .int (iI (pw)), .int (iI (zk))])), (nb, .inr (3, [.ref nd, .int (iI (((dl (rz (kfY X (pt + n))) : Nat) : Int))), .int (iI (if (kfY X (pt + n)) = 0 then 0 else pt))])), (nd, .inl (cB, 4200, .inl d))] H := hP
                  have hD : va_D A [(mo, .inr (4, [.ref nb, .ref un, .ref ov, .ref xx, .ref dc, .int (iI (0)), .int (iI (0)), .long (ma), .int (iI (pw)), .int (iI (zk))])), (nb, .inr (3, [.ref nd, .int (iI (((dl (rz (kfY X (pt + n))) : Nat) : Int))), .int (iI (if (kfY X (pt + n)) = 0 then 0 else pt))])), (nd, .inl (cB, 4200, .inl d))] := hD
                  refine lv_aload_n hx hb d_Mo_ended_125 rfl (lv_at hl 2 rfl) ?_
                  refine va_get (D := D) (ci := 4) (v := .ref nb) (C := R_Mo) (T := T_Mo) (N := 10) hx hb hts (fun w h => List.mem_cons_of_mem _ (in_Mo w h)) hown hK hP 0 rfl rfl 0 (by decide) (hts _ (List.mem_cons_of_mem _ tw_390)) (fun _ h9 => h9) rfl d_Mo_ended_126 ?_
                  refine va_get (D := D) (ci := 3) (v := .int (iI (((dl (rz (kfY X (pt + n))) : Nat) : Int)))) (C := R_Ro) (T := T_Ro) (N := 3) hx hb hts (fun w h => List.mem_cons_of_mem _ (in_Ro w h)) hown hK hP 1 rfl rfl 1 (by decide) (hts _ (List.mem_cons_of_mem _ tw_362)) (fun _ h9 => h9) rfl d_Mo_ended_129 ?_
                  exact W.iret (v := (iI (((dl (rz (kfY X (pt + n))) : Nat) : Int)))) hx hb hr (fun t9 ht9 hW9 => ⟨⟨(iI (((dl (rz (kfY X (pt + n))) : Nat) : Int))), [(mo, .inr (4, [.ref nb, .ref un, .ref ov, .ref xx, .ref dc, .int (iI (0)), .int (iI (0)), .long (ma), .int (iI (pw)), .int (iI (zk))])), (nb, .inr (3, [.ref nd, .int (iI (((dl (rz (kfY X (pt + n))) : Nat) : Int))), .int (iI (if (kfY X (pt + n)) = 0 then 0 else pt))])), (nd, .inl (cB, 4200, .inl d))], rfl, ⟨rfl, nm_rz hk9.1 hdz, rfl⟩, by rw [ht9]; exact hP, hD⟩, hS.F ht9⟩) hS.2.2 d_Mo_ended_132
                · exact absurd h_10 (by omega)
              · exact absurd h_9 (by omega)
        · skip
          refine ed_pc (pc' := 58) rfl ?_
          refine lv_aload_n hx hb d_Mo_ended_58 rfl (lv_at hl 1 rfl) ?_
          refine va_get (D := D) (ci := 4) (v := .ref nb) (C := R_Mo) (T := T_Mo) (N := 10) hx hb hts (fun w h => List.mem_cons_of_mem _ (in_Mo w h)) hown hK hP 0 rfl rfl 0 (by decide) (hts _ (List.mem_cons_of_mem _ tw_390)) (fun _ h9 => h9) rfl d_Mo_ended_59 ?_
          refine va_get (D := D) (ci := 3) (v := .int (iI (((dl X : Nat) : Int)))) (C := R_Ro) (T := T_Ro) (N := 3) hx hb hts (fun w h => List.mem_cons_of_mem _ (in_Ro w h)) hown hK hP 1 rfl rfl 1 (by decide) (hts _ (List.mem_cons_of_mem _ tw_362)) (fun _ h9 => h9) rfl d_Mo_ended_62 ?_
          have hkX : kfY X (pt + n) = X := by unfold kfY; rw [show dl X - (pt + n).toNat = 0 by omega, Nat.pow_zero, Nat.div_one]
          exact W.iret (v := (iI (((dl X : Nat) : Int)))) hx hb hr (fun t9 ht9 hW9 => ⟨⟨(iI (((dl X : Nat) : Int))), [(mo, .inr (4, [.ref nb, .ref un, .ref ov, .ref xx, .ref dc, .int (iI (0)), .int (iI (0)), .long (ma), .int (iI (pw)), .int (iI (zk))])), (nb, .inr (3, [.ref nd, .int (iI (((dl X : Nat) : Int))), .int (iI (pt))])), (nd, .inl (cB, 4200, .inl d))], rfl, ⟨by rw [hkX, hnm.2.1], by rw [hkX, hnm.2.1]; exact hnm, by rw [hkX, hnm.2.1]; by_cases z : X = 0; rw [if_pos z, h0 z]; rw [if_neg z]⟩, by rw [ht9]; exact hP, hD⟩, hS.F ht9⟩) hS.2.2 d_Mo_ended_65
      · exact absurd h_3 (by omega)
    · exact absurd h_2 (by omega)
set_option maxHeartbeats 4000000 in
set_option maxRecDepth 100000 in
theorem c_Mo_ended_up (l : Launch) (D : va_G) (cB cI cJ : ClassId) (t5 : Nat) (ad : Nat → Nat) (mo nb nd un ov xx dc : Nat) (d : Nat → Int32) (pt zl th pw zk : Int) (ma : Int64) (n : Int) (X : Nat) (hnm : nm_ok d X) (hpt : -9000000 ≤ pt ∧ pt ≤ 9000000) (hk : -2000 ≤ n ∧ n ≤ 2000) (j : Nat) (hj : pt + n = (j : Int)) (hjd : j < dl X) (h5 : 5 ≤ X / 10 ^ (dl X - 1 - j) % 10) : c_I l m_Mo_ended (Cond.code m_Mo_ended b_Mo_ended 5 (some .int) :: gw) (rm_ 2 91) (eX t5 ad) D ecl (tyS cB cI cJ) [.ref mo, .int (iI (n)), .int (iI (1))] [(mo, .inr (4, [.ref nb, .ref un, .ref ov, .ref xx, .ref dc, .int (iI (zl)), .int (iI (th)), .long (ma), .int (iI (pw)), .int (iI (zk))])), (nb, .inr (3, [.ref nd, .int (iI (((dl X : Nat) : Int))), .int (iI (pt))])), (nd, .inl (cB, 4200, .inl d))] (fun r u => r = iI ((dl (rz (X / 10 ^ (dl X - j) + 1)) : Nat) : Int) ∧ ∃ d' : Nat → Int32, nm_ok d' (rz (X / 10 ^ (dl X - j) + 1)) ∧ u = [(mo, .inr (4, [.ref nb, .ref un, .ref ov, .ref xx, .ref dc, .int (iI (0)), .int (iI (0)), .long (ma), .int (iI (pw)), .int (iI (zk))])), (nb, .inr (3, [.ref nd, .int (iI (((dl (rz (X / 10 ^ (dl X - j) + 1)) : Nat) : Int))), .int (iI (if (X / 10 ^ (dl X - j) + 1) = 10 ^ j then pt + 1 else pt))])), (nd, .inl (cB, 4200, .inl d'))]) 0 0 := by
  intro sz0
  refine Met.ofW (cc := b_Mo_ended) (maxL := 5) (ret := (some .int)) (by decide) rfl ?_
  intro p e s m args below meth c s₁ B hml hv
  obtain ⟨rfl, hsz, hP, hK, hD0, hE⟩ := hv
  have hx := B.exec
  have hb := B.bytes
  have hr := B.returns
  have hts := atoms_spec (ws := Cond.code m_Mo_ended b_Mo_ended 5 (some .int) :: gw) B.pre
  have hown : s.vm.findClass R_Mo = some m.cls := findClass_of_methodNamed B.named
  have hlocks := B.notSynchronized
  subst hsz
  have hD := hD0.self (sz := s.heap.size)
  generalize hAe : va_A [(mo, .inr (4, [.ref nb, .ref un, .ref ov, .ref xx, .ref dc, .int (iI (zl)), .int (iI (th)), .long (ma), .int (iI (pw)), .int (iI (zk))])), (nb, .inr (3, [.ref nd, .int (iI (((dl X : Nat) : Int))), .int (iI (pt))])), (nd, .inl (cB, 4200, .inl d))] s.heap.size = A at hD hE ⊢
  have hA : ∀ q : Nat, s.heap.size ≤ q → A q := fun q h => by rw [← hAe]; exact Or.inr h
  have hS : va_S A s.heap s.heap [] := va_S.rf
  have hl := lv_entry ([.ref mo, .int (iI (n)), .int (iI (1))]) (n := 5) (Nat.le_of_ble_eq_true rfl)
  rw [lg_entry_eq]
  generalize (lg_sl ([.ref mo, .int (iI (n)), .int (iI (1))]) ++ List.replicate (5 - (lg_sl ([.ref mo, .int (iI (n)), .int (iI (1))])).length) Slot.unset).toArray = ls at hl ⊢
  have hl : lv_has ls 5 [(0, .ref mo), (1, .int (iI (n))), (2, .int (iI (1)))] := hl
  have hd12 := hnm.1
  obtain ⟨Y, hY⟩ : ∃ Y : Nat, Y = X / 10 ^ (dl X - j) := ⟨_, rfl⟩
  have hYd : dl Y = j := by rw [hY, dl_div]; omega
  have hYg : dg_ok d (dl Y) Y := by rw [hYd, hY]; exact dg_pre hnm.2.2 (by omega)
  rw [← hY]
  obtain ⟨hp1, hp2, hp3⟩ := up_pt hYd pt
  refine lv_aload_n hx hb d_Mo_ended_0 rfl (lv_at hl 0 rfl) ?_
  refine lv_iload_n hx hb d_Mo_ended_1 rfl (lv_at hl 1 rfl) ?_
  refine lv_sipush (v := iI (-2000)) hx hb d_Mo_ended_2 (by decide +kernel) ?_
  refine ed_icmp_lt (tgt := 15) hx hb d_Mo_ended_5 rfl (by omega) (by omega) (fun h_1 => ?_) (fun h_1 => ?_)
  · exact absurd h_1 (by omega)
  · skip
    refine ed_pc (pc' := 8) rfl ?_
    refine lv_iload_n hx hb d_Mo_ended_8 rfl (lv_at hl 1 rfl) ?_
    refine lv_sipush (v := iI 2000) hx hb d_Mo_ended_9 (by decide +kernel) ?_
    refine ed_icmp_le (tgt := 19) hx hb d_Mo_ended_12 rfl (by omega) (by omega) (fun h_2 => ?_) (fun h_2 => ?_)
    · skip
      refine ed_pc (pc' := 19) rfl ?_
      refine ed_pc (pc' := 19) rfl ?_
      refine lv_iconst (v := iI 0) hx hb d_Mo_ended_19 rfl ?_
      refine va_put (D := D) (ci := 4) (v := .int (iI (0))) (ty := .int) (C := R_Mo) (T := T_Mo) (N := 10) hx hb hts (fun w h => List.mem_cons_of_mem _ (in_Mo w h)) y_Mo t_Mo n_Mo hown hK hP hD hS 0 rfl rfl 6 (by decide) (hts _ (List.mem_cons_of_mem _ tw_396)) (fun _ h9 => h9) rfl (by decide +kernel) rfl rfl (Nat.le_of_ble_eq_true rfl) d_Mo_ended_20 (fun H locs hP hD hS => ?_)
      have hP : va_P D ecl [(mo, .inr (4, [.ref nb, .ref un, .ref ov, .ref xx, .ref dc, .int (iI (zl)), .int (iI (0)), .long (ma), .int (iI (pw)), .int (iI (zk))])), (nb, .inr (3, [.ref nd, .int (iI (((dl X : Nat) : Int))), .int (iI (pt))])), (nd, .inl (cB, 4200, .inl d))] H := hP
      have hD : va_D A [(mo, .inr (4, [.ref nb, .ref un, .ref ov, .ref xx, .ref dc, .int (iI (zl)), .int (iI (0)), .long (ma), .int (iI (pw)), .int (iI (zk))])), (nb, .inr (3, [.ref nd, .int (iI (((dl X : Nat) : Int))), .int (iI (pt))])), (nd, .inl (cB, 4200, .inl d))] := hD
      refine lv_aload_n hx hb d_Mo_ended_23 rfl (lv_at hl 0 rfl) ?_
      refine va_get (D := D) (ci := 4) (v := .int (iI (0))) (C := R_Mo) (T := T_Mo) (N := 10) hx hb hts (fun w h => List.mem_cons_of_mem _ (in_Mo w h)) hown hK hP 0 rfl rfl 6 (by decide) (hts _ (List.mem_cons_of_mem _ tw_396)) (fun _ h9 => h9) rfl d_Mo_ended_24 ?_
      refine ed_if_le (tgt := 32) hx hb d_Mo_ended_27 rfl (by omega) (fun h_3 => ?_) (fun h_3 => ?_)
      · skip
        refine ed_pc (pc' := 32) rfl ?_
        refine lv_aload_n hx hb d_Mo_ended_32 rfl (lv_at hl 0 rfl) ?_
        refine va_get (D := D) (ci := 4) (v := .ref nb) (C := R_Mo) (T := T_Mo) (N := 10) hx hb hts (fun w h => List.mem_cons_of_mem _ (in_Mo w h)) hown hK hP 0 rfl rfl 0 (by decide) (hts _ (List.mem_cons_of_mem _ tw_390)) (fun _ h9 => h9) rfl d_Mo_ended_33 ?_
        refine va_get (D := D) (ci := 3) (v := .int (iI (pt))) (C := R_Ro) (T := T_Ro) (N := 3) hx hb hts (fun w h => List.mem_cons_of_mem _ (in_Ro w h)) hown hK hP 1 rfl rfl 2 (by decide) (hts _ (List.mem_cons_of_mem _ tw_364)) (fun _ h9 => h9) rfl d_Mo_ended_36 ?_
        refine ed_pc (pc' := 39) rfl ?_
        refine lv_iload_n hx hb d_Mo_ended_39 rfl (lv_at hl 1 rfl) ?_
        refine ed_iadd hx hb d_Mo_ended_40 ?_
        refine lv_istore_n hx hb d_Mo_ended_41 rfl hl (by decide) rfl (fun ls hl => ?_)
        have hl : lv_has ls 5 [(3, .int (iI ((pt) + (n)))), (0, .ref mo), (1, .int (iI (n))), (2, .int (iI (1)))] := hl
        refine lv_aload_n hx hb d_Mo_ended_42 rfl (lv_at hl 1 rfl) ?_
        refine lv_iconst (v := iI 0) hx hb d_Mo_ended_43 rfl ?_
        refine va_put (D := D) (ci := 4) (v := .int (iI (0))) (ty := .boolean) (C := R_Mo) (T := T_Mo) (N := 10) hx hb hts (fun w h => List.mem_cons_of_mem _ (in_Mo w h)) y_Mo t_Mo n_Mo hown hK hP hD hS 0 rfl rfl 5 (by decide) (hts _ (List.mem_cons_of_mem _ tw_395)) (fun _ h9 => h9) rfl (by decide +kernel) (by decide +kernel) (by decide +kernel) (Nat.le_of_ble_eq_true rfl) d_Mo_ended_44 (fun H locs hP hD hS => ?_)
        have hP : va_P D ecl [(mo, .inr (4, [.ref nb, .ref un, .ref ov, .ref xx, .ref dc, .int (iI (0)), .int (iI (0)), .long (ma), .int (iI (pw)), .int (iI (zk))])), (nb, .inr (3, [.ref nd, .int (iI (((dl X : Nat) : Int))), .int (iI (pt))])), (nd, .inl (cB, 4200, .inl d))] H := hP
        have hD : va_D A [(mo, .inr (4, [.ref nb, .ref un, .ref ov, .ref xx, .ref dc, .int (iI (0)), .int (iI (0)), .long (ma), .int (iI (pw)), .int (iI (zk))])), (nb, .inr (3, [.ref nd, .int (iI (((dl X : Nat) : Int))), .int (iI (pt))])), (nd, .inl (cB, 4200, .inl d))] := hD
        refine lv_iload_n hx hb d_Mo_ended_47 rfl (lv_at hl 0 rfl) ?_
        refine lv_aload_n hx hb d_Mo_ended_48 rfl (lv_at hl 1 rfl) ?_
        refine ed_pc (pc' := 49) rfl ?_
        refine va_get (D := D) (ci := 4) (v := .ref nb) (C := R_Mo) (T := T_Mo) (N := 10) hx hb hts (fun w h => List.mem_cons_of_mem _ (in_Mo w h)) hown hK hP 0 rfl rfl 0 (by decide) (hts _ (List.mem_cons_of_mem _ tw_390)) (fun _ h9 => h9) rfl d_Mo_ended_49 ?_
        refine va_get (D := D) (ci := 3) (v := .int (iI (((dl X : Nat) : Int)))) (C := R_Ro) (T := T_Ro) (N := 3) hx hb hts (fun w h => List.mem_cons_of_mem _ (in_Ro w h)) hown hK hP 1 rfl rfl 1 (by decide) (hts _ (List.mem_cons_of_mem _ tw_362)) (fun _ h9 => h9) rfl d_Mo_ended_52 ?_
        refine ed_icmp_lt (tgt := 66) hx hb d_Mo_ended_55 rfl (by omega) (by omega) (fun h_4 => ?_) (fun h_4 => ?_)
        · skip
          refine ed_pc (pc' := 66) rfl ?_
          refine lv_iload_n hx hb d_Mo_ended_66 rfl (lv_at hl 3 rfl) ?_
          refine ed_if_eq (tgt := 91) hx hb d_Mo_ended_67 rfl (by omega) (fun h_5 => ?_) (fun h_5 => ?_)
          · exact absurd h_5 (by omega)
          · skip
            refine ed_pc (pc' := 70) rfl ?_
            refine lv_iload_n hx hb d_Mo_ended_70 rfl (lv_at hl 0 rfl) ?_
            refine ed_if_lt (tgt := 91) hx hb d_Mo_ended_71 rfl (by omega) (fun h_6 => ?_) (fun h_6 => ?_)
            · exact absurd h_6 (by omega)
            · skip
              refine ed_pc (pc' := 74) rfl ?_
              obtain ⟨e9, he9⟩ : ∃ e9 : Nat, e9 = X / 10 ^ (dl X - 1 - j) % 10 := ⟨_, rfl⟩
              rw [← he9] at h5
              have he10 : e9 < 10 := by rw [he9]; exact dg_lt _ _
              refine lv_aload_n hx hb d_Mo_ended_74 rfl (lv_at hl 1 rfl) ?_
              refine ed_pc (pc' := 75) rfl ?_
              refine va_get (D := D) (ci := 4) (v := .ref nb) (C := R_Mo) (T := T_Mo) (N := 10) hx hb hts (fun w h => List.mem_cons_of_mem _ (in_Mo w h)) hown hK hP 0 rfl rfl 0 (by decide) (hts _ (List.mem_cons_of_mem _ tw_390)) (fun _ h9 => h9) rfl d_Mo_ended_75 ?_
              refine va_get (D := D) (ci := 3) (v := .ref nd) (C := R_Ro) (T := T_Ro) (N := 3) hx hb hts (fun w h => List.mem_cons_of_mem _ (in_Ro w h)) hown hK hP 1 rfl rfl 0 (by decide) (hts _ (List.mem_cons_of_mem _ tw_360)) (fun _ h9 => h9) rfl d_Mo_ended_78 ?_
              refine lv_iload_n hx hb d_Mo_ended_81 rfl (lv_at hl 0 rfl) ?_
              refine ed_bald (y := (e9 : Int)) hx hb hK hP 2 0 rfl rfl (j) (by omega) (by omega) (by decide) (by rw [he9]; exact hnm.2.2 _ (by omega)) d_Mo_ended_82 ?_
              refine lv_iconst (v := iI 5) hx hb d_Mo_ended_83 rfl ?_
              refine ed_icmp_lt (tgt := 91) hx hb d_Mo_ended_84 rfl (by omega) (by omega) (fun h_7 => ?_) (fun h_7 => ?_)
              · exact absurd h_7 (by omega)
              · skip
                refine ed_pc (pc' := 87) rfl ?_
                refine lv_iconst (v := iI 1) hx hb d_Mo_ended_87 rfl ?_
                refine lv_goto (tgt := 92) hx hb d_Mo_ended_88 rfl ?_
                refine ed_pc (pc' := 92) rfl ?_
                refine lv_istore hx hb d_Mo_ended_92 hl (by decide) rfl (fun ls hl => ?_)
                have hl : lv_has ls 5 [(4, .int (iI (1))), (3, .int (iI ((pt) + (n)))), (0, .ref mo), (1, .int (iI (n))), (2, .int (iI (1)))] := hl
                refine lv_aload_n hx hb d_Mo_ended_94 rfl (lv_at hl 2 rfl) ?_
                refine va_get (D := D) (ci := 4) (v := .ref nb) (C := R_Mo) (T := T_Mo) (N := 10) hx hb hts (fun w h => List.mem_cons_of_mem _ (in_Mo w h)) hown hK hP 0 rfl rfl 0 (by decide) (hts _ (List.mem_cons_of_mem _ tw_390)) (fun _ h9 => h9) rfl d_Mo_ended_95 ?_
                refine lv_iload_n hx hb d_Mo_ended_98 rfl (lv_at hl 1 rfl) ?_
                refine lv_iconst (v := iI 0) hx hb d_Mo_ended_99 rfl ?_
                refine ed_max hx hb (hml.trans hl.1.symm) hown (hts _ (List.mem_cons_of_mem _ tw_453)) (hts _ (List.mem_cons_of_mem _ tw_146)) (hts _ (List.mem_cons_of_mem _ tw_6)) (hts _ (List.mem_cons_of_mem _ tw_147)) (Nat.le_of_ble_eq_true rfl) (Nat.le_of_ble_eq_true rfl) (Nat.le_of_ble_eq_true rfl) (Nat.le_of_ble_eq_true rfl) (by omega) (by omega) d_Mo_ended_100 ?_
                refine ed_tz (y := ((dl Y : Nat) : Int)) (by omega) ?_
                refine va_put (D := D) (ci := 3) (v := .int (iI (((dl Y : Nat) : Int)))) (ty := .int) (C := R_Ro) (T := T_Ro) (N := 3) hx hb hts (fun w h => List.mem_cons_of_mem _ (in_Ro w h)) y_Ro t_Ro n_Ro hown hK hP hD hS 1 rfl rfl 1 (by decide) (hts _ (List.mem_cons_of_mem _ tw_362)) (fun _ h9 => h9) rfl (by decide +kernel) rfl rfl (Nat.le_of_ble_eq_true rfl) d_Mo_ended_103 (fun H locs hP hD hS => ?_)
                have hP : va_P D ecl [(mo, .inr (4, [.ref nb, .ref un, .ref ov, .ref xx, .ref dc, .int (iI (0)), .int (iI (0)), .long (ma), .int (iI (pw)), .int (iI (zk))])), (nb, .inr (3, [.ref nd, .int (iI (((dl Y : Nat) : Int))), .int (iI (pt))])), (nd, .inl (cB, 4200, .inl d))] H := hP
                have hD : va_D A [(mo, .inr (4, [.ref nb, .ref un, .ref ov, .ref xx, .ref dc, .int (iI (0)), .int (iI (0)), .long (ma), .int (iI (pw)), .int (iI (zk))])), (nb, .inr (3, [.ref nd, .int (iI (((dl Y : Nat) : Int))), .int (iI (pt))])), (nd, .inl (cB, 4200, .inl d))] := hD
                refine lv_iload hx hb d_Mo_ended_106 (lv_at hl 0 rfl) ?_
                refine ed_pc (pc' := 108) rfl ?_
                refine ed_if_eq (tgt := 118) hx hb d_Mo_ended_108 rfl (by omega) (fun h_8 => ?_) (fun h_8 => ?_)
                · exact absurd h_8 (by omega)
                · skip
                  refine ed_pc (pc' := 111) rfl ?_
                  refine lv_aload_n hx hb d_Mo_ended_111 rfl (lv_at hl 2 rfl) ?_
                  refine va_get (D := D) (ci := 4) (v := .ref nb) (C := R_Mo) (T := T_Mo) (N := 10) hx hb hts (fun w h => List.mem_cons_of_mem _ (in_Mo w h)) hown hK hP 0 rfl rfl 0 (by decide) (hts _ (List.mem_cons_of_mem _ tw_390)) (fun _ h9 => h9) rfl d_Mo_ended_112 ?_
                  refine c_fv (wc := [(nb, .inr (3, [.ref nd, .int (iI (((dl Y : Nat) : Int))), .int (iI (pt))])), (nd, .inl (cB, 4200, .inl d))]) (wr := [(mo, .inr (4, [.ref nb, .ref un, .ref ov, .ref xx, .ref dc, .int (iI (0)), .int (iI (0)), .long (ma), .int (iI (pw)), .int (iI (zk))]))]) (va_runV (C := "ExactDigitsModel$Row") (As := []) (rest := []) ⟨hx, hb, hml, hown, hts⟩ (c_Ro_raise l D cB cI cJ t5 ad nb nd d pt Y (by omega) hYg (by omega) H.size) (cwV 0 hts (gV tw_476 tw_477 tw_478 tw_4 tw_479) rfl rfl rfl (by decide +kernel) ⟨Nat.le_of_ble_eq_true rfl, Nat.le_of_ble_eq_true rfl⟩) ⟨c_blind (eX_X t5 ad), va_recv (ci := 3) (q0 := 1) hK hP rfl rfl, fun U hU hW => c_pre (wc := [(nb, .inr (3, [.ref nd, .int (iI (((dl Y : Nat) : Int))), .int (iI (pt))])), (nd, .inl (cB, 4200, .inl d))]) (eX_X t5 ad) hE hK hP hD hS hA [1, 2] rfl (by decide) U hU hW⟩ rfl rfl hl.1 rfl (lv_room (Nat.le_of_ble_eq_true rfl)) d_Mo_ended_115 ⟨Nat.le_of_ble_eq_true rfl, Nat.le_of_ble_eq_true rfl⟩) hP hD hS hA [1, 2] [0] rfl rfl (by decide) (by decide) (fun u H locs hp hP hD hS => ?_)
                  obtain ⟨d3, hd3, rfl⟩ := hp
                  have hP : va_P D ecl [(mo, .inr (4, [.ref nb, .ref un, .ref ov, .ref xx, .ref dc, .int (iI (0)), .int (iI (0)), .long (ma), .int (iI (pw)), .int (iI (zk))])), (nb, .inr (3, [.ref nd, .int (iI (((dl (rz (Y + 1)) : Nat) : Int))), .int (iI (pt + (((dl (Y + 1) : Nat) : Int) - ((dl Y : Nat) : Int))))])), (nd, .inl (cB, 4200, .inl d3))] H := hP
                  have hD : va_D A [(mo, .inr (4, [.ref nb, .ref un, .ref ov, .ref xx, .ref dc, .int (iI (0)), .int (iI (0)), .long (ma), .int (iI (pw)), .int (iI (zk))])), (nb, .inr (3, [.ref nd, .int (iI (((dl (rz (Y + 1)) : Nat) : Int))), .int (iI (pt + (((dl (Y + 1) : Nat) : Int) - ((dl Y : Nat) : Int))))])), (nd, .inl (cB, 4200, .inl d3))] := hD
                  have hrp : ¬ rz (Y + 1) = 0 := Nat.ne_of_gt (rz_pos (by omega))
                  refine lv_aload_n hx hb d_Mo_ended_118 rfl (lv_at hl 2 rfl) ?_
                  refine va_get (D := D) (ci := 4) (v := .ref nb) (C := R_Mo) (T := T_Mo) (N := 10) hx hb hts (fun w h => List.mem_cons_of_mem _ (in_Mo w h)) hown hK hP 0 rfl rfl 0 (by decide) (hts _ (List.mem_cons_of_mem _ tw_390)) (fun _ h9 => h9) rfl d_Mo_ended_119 ?_
                  refine c_fv (wc := [(nb, .inr (3, [.ref nd, .int (iI (((dl (rz (Y + 1)) : Nat) : Int))), .int (iI (pt + (((dl (Y + 1) : Nat) : Int) - ((dl Y : Nat) : Int))))])), (nd, .inl (cB, 4200, .inl d3))]) (wr := [(mo, .inr (4, [.ref nb, .ref un, .ref ov, .ref xx, .ref dc, .int (iI (0)), .int (iI (0)), .long (ma), .int (iI (pw)), .int (iI (zk))]))]) (va_runV (C := "ExactDigitsModel$Row") (As := []) (rest := []) ⟨hx, hb, hml, hown, hts⟩ (c_Ro_trim l D cB cI cJ t5 ad nb nd d3 (pt + (((dl (Y + 1) : Nat) : Int) - ((dl Y : Nat) : Int))) (rz (Y + 1)) (by omega) hd3.2 H.size) (cwV 0 hts (gV tw_480 tw_442 tw_443 tw_4 tw_444) rfl rfl rfl (by decide +kernel) ⟨Nat.le_of_ble_eq_true rfl, Nat.le_of_ble_eq_true rfl⟩) ⟨c_blind (eX_X t5 ad), va_recv (ci := 3) (q0 := 1) hK hP rfl rfl, fun U hU hW => c_pre (wc := [(nb, .inr (3, [.ref nd, .int (iI (((dl (rz (Y + 1)) : Nat) : Int))), .int (iI (pt + (((dl (Y + 1) : Nat) : Int) - ((dl Y : Nat) : Int))))])), (nd, .inl (cB, 4200, .inl d3))]) (eX_X t5 ad) hE hK hP hD hS hA [1, 2] rfl (by decide) U hU hW⟩ rfl rfl hl.1 rfl (lv_room (Nat.le_of_ble_eq_true rfl)) d_Mo_ended_122 ⟨Nat.le_of_ble_eq_true rfl, Nat.le_of_ble_eq_true rfl⟩) hP hD hS hA [1, 2] [0] rfl rfl (by decide) (by decide) (fun u H locs hp hP hD hS => ?_)
                  obtain ⟨hdz, rfl⟩ := hp
                  have hP : va_P D ecl [(mo, .inr (4, [.ref nb, .ref un, .ref ov, .ref xx, .ref dc, .int (iI (0)), .int (iI (0)), .long (ma), .int (iI (pw)), .int (iI (zk))])), (nb, .inr (3, [.ref nd, .int (iI (((dl (rz (rz (Y + 1))) : Nat) : Int))), .int (iI (if rz (Y + 1) = 0 then 0 else pt + (((dl (Y + 1) : Nat) : Int) - ((dl Y : Nat) : Int))))])), (nd, .inl (cB, 4200, .inl d3))] H := hP
                  have hD : va_D A [(mo, .inr (4, [.ref nb, .ref un, .ref ov, .ref xx, .ref dc, .int (iI (0)), .int (iI (0)), .long (ma), .int (iI (pw)), .int (iI (zk))])), (nb, .inr (3, [.ref nd, .int (iI (((dl (rz (rz (Y + 1))) : Nat) : Int))), .int (iI (if rz (Y + 1) = 0 then 0 else pt + (((dl (Y + 1) : Nat) : Int) - ((dl Y : Nat) : Int))))])), (nd, .inl (cB, 4200, .inl d3))] := hD
                  refine lv_aload_n hx hb d_Mo_ended_125 rfl (lv_at hl 2 rfl) ?_
                  refine ed_pc (pc' := 126) rfl ?_
                  refine va_get (D := D) (ci := 4) (v := .ref nb) (C := R_Mo) (T := T_Mo) (N := 10) hx hb hts (fun w h => List.mem_cons_of_mem _ (in_Mo w h)) hown hK hP 0 rfl rfl 0 (by decide) (hts _ (List.mem_cons_of_mem _ tw_390)) (fun _ h9 => h9) rfl d_Mo_ended_126 ?_
                  refine va_get (D := D) (ci := 3) (v := .int (iI (((dl (rz (rz (Y + 1))) : Nat) : Int)))) (C := R_Ro) (T := T_Ro) (N := 3) hx hb hts (fun w h => List.mem_cons_of_mem _ (in_Ro w h)) hown hK hP 1 rfl rfl 1 (by decide) (hts _ (List.mem_cons_of_mem _ tw_362)) (fun _ h9 => h9) rfl d_Mo_ended_129 ?_
                  exact W.iret (v := (iI (((dl (rz (rz (Y + 1))) : Nat) : Int)))) hx hb hr (fun t9 ht9 hW9 => ⟨⟨(iI (((dl (rz (rz (Y + 1))) : Nat) : Int))), [(mo, .inr (4, [.ref nb, .ref un, .ref ov, .ref xx, .ref dc, .int (iI (0)), .int (iI (0)), .long (ma), .int (iI (pw)), .int (iI (zk))])), (nb, .inr (3, [.ref nd, .int (iI (((dl (rz (rz (Y + 1))) : Nat) : Int))), .int (iI (if rz (Y + 1) = 0 then 0 else pt + (((dl (Y + 1) : Nat) : Int) - ((dl Y : Nat) : Int))))])), (nd, .inl (cB, 4200, .inl d3))], rfl, ⟨by rw [hd3.1], d3, ⟨by omega, hd3⟩, by rw [hd3.1, if_neg hrp, hp1]⟩, by rw [ht9]; exact hP, hD⟩, hS.F ht9⟩) hS.2.2 d_Mo_ended_132
        · exact absurd h_4 (by omega)
      · exact absurd h_3 (by omega)
    · exact absurd h_2 (by omega)
set_option maxHeartbeats 4000000 in
set_option maxRecDepth 100000 in
theorem c_Mo_ended_no (l : Launch) (D : va_G) (cB cI cJ : ClassId) (t5 : Nat) (ad : Nat → Nat) (mo nb nd un ov xx dc : Nat) (d : Nat → Int32) (pt zl th pw zk : Int) (ma : Int64) (X : Nat) (n zr : Int) (hk : iR n) (hm : n < -2000 ∨ 2000 < n) : c_I l m_Mo_ended (Cond.code m_Mo_ended b_Mo_ended 5 (some .int) :: gw) (rm_ 2 91) (eX t5 ad) D ecl (tyS cB cI cJ) [.ref mo, .int (iI (n)), .int (iI (zr))] [(mo, .inr (4, [.ref nb, .ref un, .ref ov, .ref xx, .ref dc, .int (iI (zl)), .int (iI (th)), .long (ma), .int (iI (pw)), .int (iI (zk))])), (nb, .inr (3, [.ref nd, .int (iI (((dl X : Nat) : Int))), .int (iI (pt))])), (nd, .inl (cB, 4200, .inl d))] (fun r u => r = iI 0 ∧ u = [(mo, .inr (4, [.ref nb, .ref un, .ref ov, .ref xx, .ref dc, .int (iI (zl)), .int (iI (1)), .long (ma), .int (iI (pw)), .int (iI (zk))])), (nb, .inr (3, [.ref nd, .int (iI (((dl X : Nat) : Int))), .int (iI (pt))])), (nd, .inl (cB, 4200, .inl d))]) 0 0 := by
  intro sz0
  refine Met.ofW (cc := b_Mo_ended) (maxL := 5) (ret := (some .int)) (by decide) rfl ?_
  intro p e s m args below meth c s₁ B hml hv
  obtain ⟨rfl, hsz, hP, hK, hD0, hE⟩ := hv
  have hx := B.exec
  have hb := B.bytes
  have hr := B.returns
  have hts := atoms_spec (ws := Cond.code m_Mo_ended b_Mo_ended 5 (some .int) :: gw) B.pre
  have hown : s.vm.findClass R_Mo = some m.cls := findClass_of_methodNamed B.named
  have hlocks := B.notSynchronized
  subst hsz
  have hD := hD0.self (sz := s.heap.size)
  generalize hAe : va_A [(mo, .inr (4, [.ref nb, .ref un, .ref ov, .ref xx, .ref dc, .int (iI (zl)), .int (iI (th)), .long (ma), .int (iI (pw)), .int (iI (zk))])), (nb, .inr (3, [.ref nd, .int (iI (((dl X : Nat) : Int))), .int (iI (pt))])), (nd, .inl (cB, 4200, .inl d))] s.heap.size = A at hD hE ⊢
  have hA : ∀ q : Nat, s.heap.size ≤ q → A q := fun q h => by rw [← hAe]; exact Or.inr h
  have hS : va_S A s.heap s.heap [] := va_S.rf
  have hl := lv_entry ([.ref mo, .int (iI (n)), .int (iI (zr))]) (n := 5) (Nat.le_of_ble_eq_true rfl)
  rw [lg_entry_eq]
  generalize (lg_sl ([.ref mo, .int (iI (n)), .int (iI (zr))]) ++ List.replicate (5 - (lg_sl ([.ref mo, .int (iI (n)), .int (iI (zr))])).length) Slot.unset).toArray = ls at hl ⊢
  have hl : lv_has ls 5 [(0, .ref mo), (1, .int (iI (n))), (2, .int (iI (zr)))] := hl
  refine lv_aload_n hx hb d_Mo_ended_0 rfl (lv_at hl 0 rfl) ?_
  refine lv_iload_n hx hb d_Mo_ended_1 rfl (lv_at hl 1 rfl) ?_
  refine lv_sipush (v := iI (-2000)) hx hb d_Mo_ended_2 (by decide +kernel) ?_
  refine ed_icmp_lt (tgt := 15) hx hb d_Mo_ended_5 rfl (by omega) (by omega) (fun h_1 => ?_) (fun h_1 => ?_)
  · skip
    refine ed_pc (pc' := 15) rfl ?_
    refine lv_iconst (v := iI 1) hx hb d_Mo_ended_15 rfl ?_
    refine lv_goto (tgt := 20) hx hb d_Mo_ended_16 rfl ?_
    refine va_put (D := D) (ci := 4) (v := .int (iI (1))) (ty := .int) (C := R_Mo) (T := T_Mo) (N := 10) hx hb hts (fun w h => List.mem_cons_of_mem _ (in_Mo w h)) y_Mo t_Mo n_Mo hown hK hP hD hS 0 rfl rfl 6 (by decide) (hts _ (List.mem_cons_of_mem _ tw_396)) (fun _ h9 => h9) rfl (by decide +kernel) rfl rfl (Nat.le_of_ble_eq_true rfl) d_Mo_ended_20 (fun H locs hP hD hS => ?_)
    have hP : va_P D ecl [(mo, .inr (4, [.ref nb, .ref un, .ref ov, .ref xx, .ref dc, .int (iI (zl)), .int (iI (1)), .long (ma), .int (iI (pw)), .int (iI (zk))])), (nb, .inr (3, [.ref nd, .int (iI (((dl X : Nat) : Int))), .int (iI (pt))])), (nd, .inl (cB, 4200, .inl d))] H := hP
    have hD : va_D A [(mo, .inr (4, [.ref nb, .ref un, .ref ov, .ref xx, .ref dc, .int (iI (zl)), .int (iI (1)), .long (ma), .int (iI (pw)), .int (iI (zk))])), (nb, .inr (3, [.ref nd, .int (iI (((dl X : Nat) : Int))), .int (iI (pt))])), (nd, .inl (cB, 4200, .inl d))] := hD
    refine ed_pc (pc' := 23) rfl ?_
    refine lv_aload_n hx hb d_Mo_ended_23 rfl (lv_at hl 0 rfl) ?_
    refine va_get (D := D) (ci := 4) (v := .int (iI (1))) (C := R_Mo) (T := T_Mo) (N := 10) hx hb hts (fun w h => List.mem_cons_of_mem _ (in_Mo w h)) hown hK hP 0 rfl rfl 6 (by decide) (hts _ (List.mem_cons_of_mem _ tw_396)) (fun _ h9 => h9) rfl d_Mo_ended_24 ?_
    refine ed_if_le (tgt := 32) hx hb d_Mo_ended_27 rfl (by omega) (fun h_2 => ?_) (fun h_2 => ?_)
    · exact absurd h_2 (by omega)
    · skip
      refine ed_pc (pc' := 30) rfl ?_
      refine lv_iconst (v := iI 0) hx hb d_Mo_ended_30 rfl ?_
      exact W.iret (v := (iI (0))) hx hb hr (fun t9 ht9 hW9 => ⟨⟨(iI (0)), [(mo, .inr (4, [.ref nb, .ref un, .ref ov, .ref xx, .ref dc, .int (iI (zl)), .int (iI (1)), .long (ma), .int (iI (pw)), .int (iI (zk))])), (nb, .inr (3, [.ref nd, .int (iI (((dl X : Nat) : Int))), .int (iI (pt))])), (nd, .inl (cB, 4200, .inl d))], rfl, ⟨rfl, rfl⟩, by rw [ht9]; exact hP, hD⟩, hS.F ht9⟩) hS.2.2 d_Mo_ended_31
  · skip
    refine ed_pc (pc' := 8) rfl ?_
    refine lv_iload_n hx hb d_Mo_ended_8 rfl (lv_at hl 1 rfl) ?_
    refine lv_sipush (v := iI 2000) hx hb d_Mo_ended_9 (by decide +kernel) ?_
    refine ed_icmp_le (tgt := 19) hx hb d_Mo_ended_12 rfl (by omega) (by omega) (fun h_3 => ?_) (fun h_3 => ?_)
    · skip
      refine ed_pc (pc' := 19) rfl ?_
      exfalso; omega
    · skip
      refine ed_pc (pc' := 15) rfl ?_
      refine ed_pc (pc' := 15) rfl ?_
      refine lv_iconst (v := iI 1) hx hb d_Mo_ended_15 rfl ?_
      refine lv_goto (tgt := 20) hx hb d_Mo_ended_16 rfl ?_
      refine va_put (D := D) (ci := 4) (v := .int (iI (1))) (ty := .int) (C := R_Mo) (T := T_Mo) (N := 10) hx hb hts (fun w h => List.mem_cons_of_mem _ (in_Mo w h)) y_Mo t_Mo n_Mo hown hK hP hD hS 0 rfl rfl 6 (by decide) (hts _ (List.mem_cons_of_mem _ tw_396)) (fun _ h9 => h9) rfl (by decide +kernel) rfl rfl (Nat.le_of_ble_eq_true rfl) d_Mo_ended_20 (fun H locs hP hD hS => ?_)
      have hP : va_P D ecl [(mo, .inr (4, [.ref nb, .ref un, .ref ov, .ref xx, .ref dc, .int (iI (zl)), .int (iI (1)), .long (ma), .int (iI (pw)), .int (iI (zk))])), (nb, .inr (3, [.ref nd, .int (iI (((dl X : Nat) : Int))), .int (iI (pt))])), (nd, .inl (cB, 4200, .inl d))] H := hP
      have hD : va_D A [(mo, .inr (4, [.ref nb, .ref un, .ref ov, .ref xx, .ref dc, .int (iI (zl)), .int (iI (1)), .long (ma), .int (iI (pw)), .int (iI (zk))])), (nb, .inr (3, [.ref nd, .int (iI (((dl X : Nat) : Int))), .int (iI (pt))])), (nd, .inl (cB, 4200, .inl d))] := hD
      refine lv_aload_n hx hb d_Mo_ended_23 rfl (lv_at hl 0 rfl) ?_
      refine va_get (D := D) (ci := 4) (v := .int (iI (1))) (C := R_Mo) (T := T_Mo) (N := 10) hx hb hts (fun w h => List.mem_cons_of_mem _ (in_Mo w h)) hown hK hP 0 rfl rfl 6 (by decide) (hts _ (List.mem_cons_of_mem _ tw_396)) (fun _ h9 => h9) rfl d_Mo_ended_24 ?_
      refine ed_if_le (tgt := 32) hx hb d_Mo_ended_27 rfl (by omega) (fun h_4 => ?_) (fun h_4 => ?_)
      · exact absurd h_4 (by omega)
      · skip
        refine ed_pc (pc' := 30) rfl ?_
        refine lv_iconst (v := iI 0) hx hb d_Mo_ended_30 rfl ?_
        exact W.iret (v := (iI (0))) hx hb hr (fun t9 ht9 hW9 => ⟨⟨(iI (0)), [(mo, .inr (4, [.ref nb, .ref un, .ref ov, .ref xx, .ref dc, .int (iI (zl)), .int (iI (1)), .long (ma), .int (iI (pw)), .int (iI (zk))])), (nb, .inr (3, [.ref nd, .int (iI (((dl X : Nat) : Int))), .int (iI (pt))])), (nd, .inl (cB, 4200, .inl d))], rfl, ⟨rfl, rfl⟩, by rw [ht9]; exact hP, hD⟩, hS.F ht9⟩) hS.2.2 d_Mo_ended_31
