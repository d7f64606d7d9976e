set_option maxHeartbeats 4000000 in
set_option maxRecDepth 100000 in
theorem c_Ro_copy (l : Launch) (D : va_G) (cB cI cJ : ClassId) (t5 : Nat) (ad : Nat → Nat) (r rd r2 rd2 : Nat) (d d2 : Nat → Int32) (zn pt p2 : Int) (X : Nat) (h41 : dl X ≤ 4200) (hg : rw_ok d2 X) : c_V l m_Ro_copy (Cond.code m_Ro_copy b_Ro_copy 2 none :: gw) (rm_ 1 70) (eX t5 ad) D ecl (tyS cB cI cJ) [.ref r, .ref r2] [(r, .inr (3, [.ref rd, .int (iI (zn)), .int (iI (pt))])), (rd, .inl (cB, 4200, .inl d)), (r2, .inr (3, [.ref rd2, .int (iI (((dl X : Nat) : Int))), .int (iI (p2))])), (rd2, .inl (cB, 4200, .inl d2))] (fun u => ∃ d' : Nat → Int32, rw_ok d' X ∧ u = [(r, .inr (3, [.ref rd, .int (iI (((dl X : Nat) : Int))), .int (iI (p2))])), (rd, .inl (cB, 4200, .inl d')), (r2, .inr (3, [.ref rd2, .int (iI (((dl X : Nat) : Int))), .int (iI (p2))])), (rd2, .inl (cB, 4200, .inl d2))]) 0 0 := by
  intro sz0
  refine Met.ofW (cc := b_Ro_copy) (maxL := 2) (ret := none) (by decide) rfl ?_
  intro p e s m args below meth c s₁ B hml hv
  obtain ⟨rfl, hsz, hP, hK, hD0, hE⟩ := hv
  have hx := B.exec
  have hb := B.bytes
  have hr := B.returns
  have hts := atoms_spec (ws := Cond.code m_Ro_copy b_Ro_copy 2 none :: gw) B.pre
  have hown : s.vm.findClass R_Ro = some m.cls := findClass_of_methodNamed B.named
  have hlocks := B.notSynchronized
  subst hsz
  have hD := hD0.self (sz := s.heap.size)
  generalize hAe : va_A [(r, .inr (3, [.ref rd, .int (iI (zn)), .int (iI (pt))])), (rd, .inl (cB, 4200, .inl d)), (r2, .inr (3, [.ref rd2, .int (iI (((dl X : Nat) : Int))), .int (iI (p2))])), (rd2, .inl (cB, 4200, .inl d2))] s.heap.size = A at hD hE ⊢
  have hA : ∀ q : Nat, s.heap.size ≤ q → A q := fun q h => by rw [← hAe]; exact Or.inr h
  have hS : va_S A s.heap s.heap [] := va_S.rf
  have hl := lv_entry ([.ref r, .ref r2]) (n := 2) (Nat.le_of_ble_eq_true rfl)
  rw [lg_entry_eq]
  generalize (lg_sl ([.ref r, .ref r2]) ++ List.replicate (2 - (lg_sl ([.ref r, .ref r2])).length) Slot.unset).toArray = ls at hl ⊢
  have hl : lv_has ls 2 [(0, .ref r), (1, .ref r2)] := hl
  refine lv_aload_n hx hb d_Ro_copy_0 rfl (lv_at hl 1 rfl) ?_
  refine va_get (D := D) (ci := 3) (v := .ref rd2) (C := R_Ro) (T := T_Ro) (N := 3) hx hb hts (fun w h => List.mem_cons_of_mem _ (in_Ro w h)) hown hK hP 2 rfl rfl 0 (by decide) (hts _ (List.mem_cons_of_mem _ tw_359)) (fun _ h9 => h9) rfl d_Ro_copy_1 ?_
  refine lv_iconst (v := iI 0) hx hb d_Ro_copy_4 rfl ?_
  refine lv_aload_n hx hb d_Ro_copy_5 rfl (lv_at hl 0 rfl) ?_
  refine va_get (D := D) (ci := 3) (v := .ref rd) (C := R_Ro) (T := T_Ro) (N := 3) hx hb hts (fun w h => List.mem_cons_of_mem _ (in_Ro w h)) hown hK hP 0 rfl rfl 0 (by decide) (hts _ (List.mem_cons_of_mem _ tw_359)) (fun _ h9 => h9) rfl d_Ro_copy_6 ?_
  refine lv_iconst (v := iI 0) hx hb d_Ro_copy_9 rfl ?_
  refine lv_aload_n hx hb d_Ro_copy_10 rfl (lv_at hl 1 rfl) ?_
  refine ed_pc (pc' := 11) rfl ?_
  refine va_get (D := D) (ci := 3) (v := .int (iI (((dl X : Nat) : Int)))) (C := R_Ro) (T := T_Ro) (N := 3) hx hb hts (fun w h => List.mem_cons_of_mem _ (in_Ro w h)) hown hK hP 2 rfl rfl 1 (by decide) (hts _ (List.mem_cons_of_mem _ tw_361)) (fun _ h9 => h9) rfl d_Ro_copy_11 ?_
  refine ed_copyb hx hb (hml.trans hl.1.symm) hown (hts _ (List.mem_cons_of_mem _ tw_438)) (hts _ (List.mem_cons_of_mem _ tw_440)) (hts _ (List.mem_cons_of_mem _ tw_439)) (hts _ (List.mem_cons_of_mem _ tw_8)) hK hP hD hS 3 1 0 rfl rfl rfl (0) (0) (dl X) (by omega) (by omega) (by omega) (by decide) (by omega) (by omega) (fun k hk => by rw [Nat.zero_add]; exact dg_fit hg.2 hk) (Nat.le_of_ble_eq_true rfl) (Nat.le_of_ble_eq_true rfl) d_Ro_copy_14 (fun H locs hP hD hS => ?_)
  have hP : va_P D ecl [(r, .inr (3, [.ref rd, .int (iI (zn)), .int (iI (pt))])), (rd, .inl (cB, 4200, .inl (va_cpy d2 d (0) (0) (dl X)))), (r2, .inr (3, [.ref rd2, .int (iI (((dl X : Nat) : Int))), .int (iI (p2))])), (rd2, .inl (cB, 4200, .inl d2))] H := hP
  have hD : va_D A [(r, .inr (3, [.ref rd, .int (iI (zn)), .int (iI (pt))])), (rd, .inl (cB, 4200, .inl (va_cpy d2 d (0) (0) (dl X)))), (r2, .inr (3, [.ref rd2, .int (iI (((dl X : Nat) : Int))), .int (iI (p2))])), (rd2, .inl (cB, 4200, .inl d2))] := hD
  refine lv_aload_n hx hb d_Ro_copy_17 rfl (lv_at hl 0 rfl) ?_
  refine lv_aload_n hx hb d_Ro_copy_18 rfl (lv_at hl 1 rfl) ?_
  refine va_get (D := D) (ci := 3) (v := .int (iI (((dl X : Nat) : Int)))) (C := R_Ro) (T := T_Ro) (N := 3) hx hb hts (fun w h => List.mem_cons_of_mem _ (in_Ro w h)) hown hK hP 2 rfl rfl 1 (by decide) (hts _ (List.mem_cons_of_mem _ tw_361)) (fun _ h9 => h9) rfl d_Ro_copy_19 ?_
  refine va_put (D := D) (ci := 3) (v := .int (iI (((dl X : Nat) : Int)))) (ty := .int) (C := R_Ro) (T := T_Ro) (N := 3) hx hb hts (fun w h => List.mem_cons_of_mem _ (in_Ro w h)) y_Ro t_Ro n_Ro hown hK hP hD hS 0 rfl rfl 1 (by decide) (hts _ (List.mem_cons_of_mem _ tw_361)) (fun _ h9 => h9) rfl (by decide +kernel) rfl rfl (Nat.le_of_ble_eq_true rfl) d_Ro_copy_22 (fun H locs hP hD hS => ?_)
  have hP : va_P D ecl [(r, .inr (3, [.ref rd, .int (iI (((dl X : Nat) : Int))), .int (iI (pt))])), (rd, .inl (cB, 4200, .inl (va_cpy d2 d (0) (0) (dl X)))), (r2, .inr (3, [.ref rd2, .int (iI (((dl X : Nat) : Int))), .int (iI (p2))])), (rd2, .inl (cB, 4200, .inl d2))] H := hP
  have hD : va_D A [(r, .inr (3, [.ref rd, .int (iI (((dl X : Nat) : Int))), .int (iI (pt))])), (rd, .inl (cB, 4200, .inl (va_cpy d2 d (0) (0) (dl X)))), (r2, .inr (3, [.ref rd2, .int (iI (((dl X : Nat) : Int))), .int (iI (p2))])), (rd2, .inl (cB, 4200, .inl d2))] := hD
  refine lv_aload_n hx hb d_Ro_copy_25 rfl (lv_at hl 0 rfl) ?_
  refine lv_aload_n hx hb d_Ro_copy_26 rfl (lv_at hl 1 rfl) ?_
  refine va_get (D := D) (ci := 3) (v := .int (iI (p2))) (C := R_Ro) (T := T_Ro) (N := 3) hx hb hts (fun w h => List.mem_cons_of_mem _ (in_Ro w h)) hown hK hP 2 rfl rfl 2 (by decide) (hts _ (List.mem_cons_of_mem _ tw_363)) (fun _ h9 => h9) rfl d_Ro_copy_27 ?_
  refine ed_pc (pc' := 30) rfl ?_
  refine va_put (D := D) (ci := 3) (v := .int (iI (p2))) (ty := .int) (C := R_Ro) (T := T_Ro) (N := 3) hx hb hts (fun w h => List.mem_cons_of_mem _ (in_Ro w h)) y_Ro t_Ro n_Ro hown hK hP hD hS 0 rfl rfl 2 (by decide) (hts _ (List.mem_cons_of_mem _ tw_363)) (fun _ h9 => h9) rfl (by decide +kernel) rfl rfl (Nat.le_of_ble_eq_true rfl) d_Ro_copy_30 (fun H locs hP hD hS => ?_)
  have hP : va_P D ecl [(r, .inr (3, [.ref rd, .int (iI (((dl X : Nat) : Int))), .int (iI (p2))])), (rd, .inl (cB, 4200, .inl (va_cpy d2 d (0) (0) (dl X)))), (r2, .inr (3, [.ref rd2, .int (iI (((dl X : Nat) : Int))), .int (iI (p2))])), (rd2, .inl (cB, 4200, .inl d2))] H := hP
  have hD : va_D A [(r, .inr (3, [.ref rd, .int (iI (((dl X : Nat) : Int))), .int (iI (p2))])), (rd, .inl (cB, 4200, .inl (va_cpy d2 d (0) (0) (dl X)))), (r2, .inr (3, [.ref rd2, .int (iI (((dl X : Nat) : Int))), .int (iI (p2))])), (rd2, .inl (cB, 4200, .inl d2))] := hD
  exact W.vret hx hb hr (fun t9 ht9 hW9 => ⟨⟨[(r, .inr (3, [.ref rd, .int (iI (((dl X : Nat) : Int))), .int (iI (p2))])), (rd, .inl (cB, 4200, .inl (va_cpy d2 d (0) (0) (dl X)))), (r2, .inr (3, [.ref rd2, .int (iI (((dl X : Nat) : Int))), .int (iI (p2))])), (rd2, .inl (cB, 4200, .inl d2))], rfl, ⟨_, rcp_ok hg, rfl⟩, by rw [ht9]; exact hP, hD⟩, hS.F ht9⟩) hS.2.2 d_Ro_copy_33
set_option maxHeartbeats 4000000 in
set_option maxRecDepth 100000 in
theorem c_Ro_at (l : Launch) (D : va_G) (cB cI cJ : ClassId) (t5 : Nat) (ad : Nat → Nat) (r rd : Nat) (d : Nat → Int32) (pt pp L : Int) (X : Nat) (h41 : dl X ≤ 4200) (hg : rw_ok d X) (hpt : -100000000 ≤ pt ∧ pt ≤ 100000000) (hp : L < pp ∧ pp ≤ 100000000) (hL : -100000000 ≤ L ∧ L ≤ pt - ((dl X : Nat) : Int)) : c_I l m_Ro_at (Cond.code m_Ro_at b_Ro_at 3 (some .int) :: gw) (rm_ 0 0) (eX t5 ad) D ecl (tyS cB cI cJ) [.ref r, .int (iI (pp))] [(r, .inr (3, [.ref rd, .int (iI (((dl X : Nat) : Int))), .int (iI (pt))])), (rd, .inl (cB, 4200, .inl d))] (fun r9 u => r9 = iI ((X * 10 ^ (pt - ((dl X : Nat) : Int) - L).toNat / 10 ^ (pp - 1 - L).toNat % 10 : Nat) : Int) ∧ u = [(r, .inr (3, [.ref rd, .int (iI (((dl X : Nat) : Int))), .int (iI (pt))])), (rd, .inl (cB, 4200, .inl d))]) 0 0 := by
  intro sz0
  refine Met.ofW (cc := b_Ro_at) (maxL := 3) (ret := (some .int)) (by decide) rfl ?_
  intro p e s m args below meth c s₁ B hml hv
  obtain ⟨rfl, hsz, hP, hK, hD0, hE⟩ := hv
  have hx := B.exec
  have hb := B.bytes
  have hr := B.returns
  have hts := atoms_spec (ws := Cond.code m_Ro_at b_Ro_at 3 (some .int) :: gw) B.pre
  have hown : s.vm.findClass R_Ro = some m.cls := findClass_of_methodNamed B.named
  have hlocks := B.notSynchronized
  subst hsz
  have hD := hD0.self (sz := s.heap.size)
  generalize hAe : va_A [(r, .inr (3, [.ref rd, .int (iI (((dl X : Nat) : Int))), .int (iI (pt))])), (rd, .inl (cB, 4200, .inl d))] s.heap.size = A at hD hE ⊢
  have hA : ∀ q : Nat, s.heap.size ≤ q → A q := fun q h => by rw [← hAe]; exact Or.inr h
  have hS : va_S A s.heap s.heap [] := va_S.rf
  have hl := lv_entry ([.ref r, .int (iI (pp))]) (n := 3) (Nat.le_of_ble_eq_true rfl)
  rw [lg_entry_eq]
  generalize (lg_sl ([.ref r, .int (iI (pp))]) ++ List.replicate (3 - (lg_sl ([.ref r, .int (iI (pp))])).length) Slot.unset).toArray = ls at hl ⊢
  have hl : lv_has ls 3 [(0, .ref r), (1, .int (iI (pp)))] := hl
  refine lv_aload_n hx hb d_Ro_at_0 rfl (lv_at hl 0 rfl) ?_
  refine va_get (D := D) (ci := 3) (v := .int (iI (pt))) (C := R_Ro) (T := T_Ro) (N := 3) hx hb hts (fun w h => List.mem_cons_of_mem _ (in_Ro w h)) hown hK hP 0 rfl rfl 2 (by decide) (hts _ (List.mem_cons_of_mem _ tw_363)) (fun _ h9 => h9) rfl d_Ro_at_1 ?_
  refine lv_iload_n hx hb d_Ro_at_4 rfl (lv_at hl 1 rfl) ?_
  refine ed_isub hx hb d_Ro_at_5 ?_
  refine lv_istore_n hx hb d_Ro_at_6 rfl hl (by decide) rfl (fun ls hl => ?_)
  have hl : lv_has ls 3 [(2, .int (iI ((pt) - (pp)))), (0, .ref r), (1, .int (iI (pp)))] := hl
  refine lv_iload_n hx hb d_Ro_at_7 rfl (lv_at hl 0 rfl) ?_
  refine ed_if_lt (tgt := 19) hx hb d_Ro_at_8 rfl (by omega) (fun h_1 => ?_) (fun h_1 => ?_)
  · skip
    refine ed_pc (pc' := 19) rfl ?_
    have hz : X * 10 ^ (pt - ((dl X : Nat) : Int) - L).toNat / 10 ^ (pp - 1 - L).toNat % 10 = 0 := by
      rcases Int.lt_or_le pt pp with z | z
      · exact at_1 (by omega)
      · exact at_2 (by omega)
    refine ed_pc (pc' := 19) rfl ?_
    refine lv_iconst (v := iI 0) hx hb d_Ro_at_19 rfl ?_
    refine lv_goto (tgt := 29) hx hb d_Ro_at_20 rfl ?_
    exact W.iret (v := (iI (0))) hx hb hr (fun t9 ht9 hW9 => ⟨⟨(iI (0)), [(r, .inr (3, [.ref rd, .int (iI (((dl X : Nat) : Int))), .int (iI (pt))])), (rd, .inl (cB, 4200, .inl d))], rfl, ⟨by rw [hz]; rfl, rfl⟩, by rw [ht9]; exact hP, hD⟩, hS.F ht9⟩) hS.2.2 d_Ro_at_29
  · skip
    refine ed_pc (pc' := 11) rfl ?_
    refine ed_pc (pc' := 11) rfl ?_
    refine lv_iload_n hx hb d_Ro_at_11 rfl (lv_at hl 0 rfl) ?_
    refine lv_aload_n hx hb d_Ro_at_12 rfl (lv_at hl 1 rfl) ?_
    refine va_get (D := D) (ci := 3) (v := .int (iI (((dl X : Nat) : Int)))) (C := R_Ro) (T := T_Ro) (N := 3) hx hb hts (fun w h => List.mem_cons_of_mem _ (in_Ro w h)) hown hK hP 0 rfl rfl 1 (by decide) (hts _ (List.mem_cons_of_mem _ tw_361)) (fun _ h9 => h9) rfl d_Ro_at_13 ?_
    refine ed_icmp_lt (tgt := 23) hx hb d_Ro_at_16 rfl (by omega) (by omega) (fun h_2 => ?_) (fun h_2 => ?_)
    · skip
      refine ed_pc (pc' := 23) rfl ?_
      obtain ⟨i, hi⟩ : ∃ i : Nat, pt - pp = (i : Int) := ⟨(pt - pp).toNat, by omega⟩
      have hz : X * 10 ^ (pt - ((dl X : Nat) : Int) - L).toNat / 10 ^ (pp - 1 - L).toNat % 10 = X / 10 ^ (dl X - 1 - i) % 10 := at_3 (by omega)
      refine lv_aload_n hx hb d_Ro_at_23 rfl (lv_at hl 1 rfl) ?_
      refine va_get (D := D) (ci := 3) (v := .ref rd) (C := R_Ro) (T := T_Ro) (N := 3) hx hb hts (fun w h => List.mem_cons_of_mem _ (in_Ro w h)) hown hK hP 0 rfl rfl 0 (by decide) (hts _ (List.mem_cons_of_mem _ tw_359)) (fun _ h9 => h9) rfl d_Ro_at_24 ?_
      refine lv_iload_n hx hb d_Ro_at_27 rfl (lv_at hl 0 rfl) ?_
      refine ed_bald (y := ((X / 10 ^ (dl X - 1 - i) % 10 : Nat) : Int)) hx hb hK hP 1 0 rfl rfl (i) (by omega) (by omega) (by decide) (hg.2 i (by omega)) d_Ro_at_28 ?_
      exact W.iret (v := (iI (((X / 10 ^ (dl X - 1 - i) % 10 : Nat) : Int)))) hx hb hr (fun t9 ht9 hW9 => ⟨⟨(iI (((X / 10 ^ (dl X - 1 - i) % 10 : Nat) : Int))), [(r, .inr (3, [.ref rd, .int (iI (((dl X : Nat) : Int))), .int (iI (pt))])), (rd, .inl (cB, 4200, .inl d))], rfl, ⟨by rw [hz], rfl⟩, by rw [ht9]; exact hP, hD⟩, hS.F ht9⟩) hS.2.2 d_Ro_at_29
    · skip
      refine ed_pc (pc' := 19) rfl ?_
      have hz : X * 10 ^ (pt - ((dl X : Nat) : Int) - L).toNat / 10 ^ (pp - 1 - L).toNat % 10 = 0 := by
        rcases Int.lt_or_le pt pp with z | z
        · exact at_1 (by omega)
        · exact at_2 (by omega)
      refine lv_iconst (v := iI 0) hx hb d_Ro_at_19 rfl ?_
      refine lv_goto (tgt := 29) hx hb d_Ro_at_20 rfl ?_
      exact W.iret (v := (iI (0))) hx hb hr (fun t9 ht9 hW9 => ⟨⟨(iI (0)), [(r, .inr (3, [.ref rd, .int (iI (((dl X : Nat) : Int))), .int (iI (pt))])), (rd, .inl (cB, 4200, .inl d))], rfl, ⟨by rw [hz]; rfl, rfl⟩, by rw [ht9]; exact hP, hD⟩, hS.F ht9⟩) hS.2.2 d_Ro_at_29
set_option maxHeartbeats 4000000 in
set_option maxRecDepth 100000 in
theorem c_Ro_compare (l : Launch) (D : va_G) (cB cI cJ : ClassId) (t5 : Nat) (ad : Nat → Nat) (r rd r2 rd2 : Nat) (d d2 : Nat → Int32) (pt p2 : Int) (X X2 : Nat) (h41 : dl X ≤ 4200) (h412 : dl X2 ≤ 4200) (hg : rw_ok d X) (hg2 : rw_ok d2 X2) (hpt : -1000000 ≤ pt ∧ pt ≤ 1000000) (hp2 : -1000000 ≤ p2 ∧ p2 ≤ 1000000) : c_I l m_Ro_compare (Cond.code m_Ro_compare b_Ro_compare 4 (some .int) :: gw) (rm_ 1 22) (eX t5 ad) D ecl (tyS cB cI cJ) [.ref r, .ref r2] [(r, .inr (3, [.ref rd, .int (iI (((dl X : Nat) : Int))), .int (iI (pt))])), (rd, .inl (cB, 4200, .inl d)), (r2, .inr (3, [.ref rd2, .int (iI (((dl X2 : Nat) : Int))), .int (iI (p2))])), (rd2, .inl (cB, 4200, .inl d2))] (fun r9 u => (∃ z : Int, r9 = iI z ∧ -9 ≤ z ∧ z ≤ 9 ∧ (z < 0 ↔ X * 10 ^ (pt - ((dl X : Nat) : Int) - min (pt - ((dl X : Nat) : Int)) (p2 - ((dl X2 : Nat) : Int))).toNat < X2 * 10 ^ (p2 - ((dl X2 : Nat) : Int) - min (pt - ((dl X : Nat) : Int)) (p2 - ((dl X2 : Nat) : Int))).toNat) ∧ (0 < z ↔ X2 * 10 ^ (p2 - ((dl X2 : Nat) : Int) - min (pt - ((dl X : Nat) : Int)) (p2 - ((dl X2 : Nat) : Int))).toNat < X * 10 ^ (pt - ((dl X : Nat) : Int) - min (pt - ((dl X : Nat) : Int)) (p2 - ((dl X2 : Nat) : Int))).toNat)) ∧ u = [(r, .inr (3, [.ref rd, .int (iI (((dl X : Nat) : Int))), .int (iI (pt))])), (rd, .inl (cB, 4200, .inl d)), (r2, .inr (3, [.ref rd2, .int (iI (((dl X2 : Nat) : Int))), .int (iI (p2))])), (rd2, .inl (cB, 4200, .inl d2))]) 0 0 := by
  intro sz0
  refine Met.ofW (cc := b_Ro_compare) (maxL := 4) (ret := (some .int)) (by decide) rfl ?_
  intro p e s m args below meth c s₁ B hml hv
  obtain ⟨rfl, hsz, hP, hK, hD0, hE⟩ := hv
  have hx := B.exec
  have hb := B.bytes
  have hr := B.returns
  have hts := atoms_spec (ws := Cond.code m_Ro_compare b_Ro_compare 4 (some .int) :: gw) B.pre
  have hown : s.vm.findClass R_Ro = some m.cls := findClass_of_methodNamed B.named
  have hlocks := B.notSynchronized
  subst hsz
  have hD := hD0.self (sz := s.heap.size)
  generalize hAe : va_A [(r, .inr (3, [.ref rd, .int (iI (((dl X : Nat) : Int))), .int (iI (pt))])), (rd, .inl (cB, 4200, .inl d)), (r2, .inr (3, [.ref rd2, .int (iI (((dl X2 : Nat) : Int))), .int (iI (p2))])), (rd2, .inl (cB, 4200, .inl d2))] s.heap.size = A at hD hE ⊢
  have hA : ∀ q : Nat, s.heap.size ≤ q → A q := fun q h => by rw [← hAe]; exact Or.inr h
  have hS : va_S A s.heap s.heap [] := va_S.rf
  have hl := lv_entry ([.ref r, .ref r2]) (n := 4) (Nat.le_of_ble_eq_true rfl)
  rw [lg_entry_eq]
  generalize (lg_sl ([.ref r, .ref r2]) ++ List.replicate (4 - (lg_sl ([.ref r, .ref r2])).length) Slot.unset).toArray = ls at hl ⊢
  have hl : lv_has ls 4 [(0, .ref r), (1, .ref r2)] := hl
  obtain ⟨L, hL⟩ : ∃ L : Int, L = min (pt - ((dl X : Nat) : Int)) (p2 - ((dl X2 : Nat) : Int)) := ⟨_, rfl⟩
  rw [← hL]
  obtain ⟨N, hN⟩ : ∃ N : Nat, N = X * 10 ^ (pt - ((dl X : Nat) : Int) - L).toNat := ⟨_, rfl⟩
  obtain ⟨N2, hN2⟩ : ∃ N2 : Nat, N2 = X2 * 10 ^ (p2 - ((dl X2 : Nat) : Int) - L).toNat := ⟨_, rfl⟩
  rw [← hN, ← hN2]
  have L34 : ∀ (n9 : Nat) (k : Nat) (zp : Int) (zL : Int) (ls : Array Slot) (H : Heap) (locs : List Loc), k = n9 → (zp = L + (k : Int)) → (zL = L) → (L + (k : Int) ≤ 1000000) → (N / 10 ^ k = N2 / 10 ^ k) → lv_has ls 4 [(0, .ref r), (1, .ref r2), (2, .int (iI (zp))), (3, .int (iI (zL)))] → va_P D ecl [(r, .inr (3, [.ref rd, .int (iI (((dl X : Nat) : Int))), .int (iI (pt))])), (rd, .inl (cB, 4200, .inl d)), (r2, .inr (3, [.ref rd2, .int (iI (((dl X2 : Nat) : Int))), .int (iI (p2))])), (rd2, .inl (cB, 4200, .inl d2))] H → va_D A [(r, .inr (3, [.ref rd, .int (iI (((dl X : Nat) : Int))), .int (iI (pt))])), (rd, .inl (cB, 4200, .inl d)), (r2, .inr (3, [.ref rd2, .int (iI (((dl X2 : Nat) : Int))), .int (iI (p2))])), (rd2, .inl (cB, 4200, .inl d2))] → va_S A s.heap H locs → W p l e (headSpec (Cond.code m_Ro_compare b_Ro_compare 4 (some .int) :: gw) (rm_ 1 22)).room s m ([.ref r, .ref r2] : List Value).toArray below meth c H locs 0 0 (MQ below (va_Qi (fun r9 u => (∃ z : Int, r9 = iI z ∧ -9 ≤ z ∧ z ≤ 9 ∧ (z < 0 ↔ N < N2) ∧ (0 < z ↔ N2 < N)) ∧ u = [(r, .inr (3, [.ref rd, .int (iI (((dl X : Nat) : Int))), .int (iI (pt))])), (rd, .inl (cB, 4200, .inl d)), (r2, .inr (3, [.ref rd2, .int (iI (((dl X2 : Nat) : Int))), .int (iI (p2))])), (rd2, .inl (cB, 4200, .inl d2))]) (c_B D ecl A) A) ([.ref r, .ref r2] : List Value).toArray s 0 0 A) (F0 m 34 ls []) := by
    intro n9
    induction n9 using Nat.strongRecOn with
    | ind n9 ih =>
    intro k zp zL ls H locs hn9 hzp hzL hk hq hl hP hD hS
    refine lv_iload_n hx hb d_Ro_compare_34 rfl (lv_at hl 2 rfl) ?_
    refine lv_iload_n hx hb d_Ro_compare_35 rfl (lv_at hl 3 rfl) ?_
    refine ed_icmp_le (tgt := 70) hx hb d_Ro_compare_36 rfl (by omega) (by omega) (fun h_1 => ?_) (fun h_1 => ?_)
    · skip
      refine ed_pc (pc' := 70) rfl ?_
      refine lv_iconst (v := iI 0) hx hb d_Ro_compare_70 rfl ?_
      have hk0 : k = 0 := by omega
      rw [hk0, Nat.pow_zero, Nat.div_one, Nat.div_one] at hq
      exact W.iret (v := (iI (0))) hx hb hr (fun t9 ht9 hW9 => ⟨⟨(iI (0)), [(r, .inr (3, [.ref rd, .int (iI (((dl X : Nat) : Int))), .int (iI (pt))])), (rd, .inl (cB, 4200, .inl d)), (r2, .inr (3, [.ref rd2, .int (iI (((dl X2 : Nat) : Int))), .int (iI (p2))])), (rd2, .inl (cB, 4200, .inl d2))], rfl, ⟨⟨0, rfl, by omega, by omega, by omega, by omega⟩, rfl⟩, by rw [ht9]; exact hP, hD⟩, hS.F ht9⟩) hS.2.2 d_Ro_compare_71
    · skip
      refine ed_pc (pc' := 39) rfl ?_
      have hk1 : k - 1 + 1 = k := by omega
      obtain ⟨e1, he1⟩ : ∃ e1 : Nat, e1 = N / 10 ^ (k - 1) % 10 := ⟨_, rfl⟩
      obtain ⟨e2, he2⟩ : ∃ e2 : Nat, e2 = N2 / 10 ^ (k - 1) % 10 := ⟨_, rfl⟩
      have hkk : (zp - 1 - L).toNat = k - 1 := by omega
      have h19 : e1 < 10 := by rw [he1]; exact dg_lt _ _
      have h29 : e2 < 10 := by rw [he2]; exact dg_lt _ _
      have hev1 : X * 10 ^ (pt - ((dl X : Nat) : Int) - L).toNat / 10 ^ (zp - 1 - L).toNat % 10 = e1 := by rw [← hN, hkk, ← he1]
      have hev2 : X2 * 10 ^ (p2 - ((dl X2 : Nat) : Int) - L).toNat / 10 ^ (zp - 1 - L).toNat % 10 = e2 := by rw [← hN2, hkk, ← he2]
      refine lv_aload_n hx hb d_Ro_compare_39 rfl (lv_at hl 0 rfl) ?_
      refine lv_iload_n hx hb d_Ro_compare_40 rfl (lv_at hl 2 rfl) ?_
      refine c_fi (wc := [(r, .inr (3, [.ref rd, .int (iI (((dl X : Nat) : Int))), .int (iI (pt))])), (rd, .inl (cB, 4200, .inl d))]) (wr := [(r2, .inr (3, [.ref rd2, .int (iI (((dl X2 : Nat) : Int))), .int (iI (p2))])), (rd2, .inl (cB, 4200, .inl d2))]) (va_runV (C := "ExactDigitsModel$Row") (As := [.int (iI (zp))]) (rest := []) ⟨hx, hb, hml, hown, hts⟩ (c_Ro_at l D cB cI cJ t5 ad r rd d pt zp L X h41 hg (by omega) (by omega) (by omega) H.size) (cwV 1 hts (gV tw_491 tw_492 tw_493 tw_4 tw_494) rfl rfl rfl (by decide +kernel) ⟨Nat.le_of_ble_eq_true rfl, Nat.le_of_ble_eq_true rfl⟩) ⟨c_blind (eX_X t5 ad), va_recv (ci := 3) (q0 := 0) hK hP rfl rfl, fun U hU hW => c_pre (wc := [(r, .inr (3, [.ref rd, .int (iI (((dl X : Nat) : Int))), .int (iI (pt))])), (rd, .inl (cB, 4200, .inl d))]) (eX_X t5 ad) hE hK hP hD hS hA [0, 1] rfl (by decide) U hU hW⟩ rfl rfl hl.1 rfl (lv_room (Nat.le_of_ble_eq_true rfl)) d_Ro_compare_41 ⟨Nat.le_of_ble_eq_true rfl, Nat.le_of_ble_eq_true rfl⟩) hP hD hS hA [0, 1] [2, 3] rfl rfl (by decide) (by decide) (fun r u H locs hp hP hD hS => ?_)
      obtain ⟨rfl, rfl⟩ := hp
      have hP : va_P D ecl [(r2, .inr (3, [.ref rd2, .int (iI (((dl X2 : Nat) : Int))), .int (iI (p2))])), (rd2, .inl (cB, 4200, .inl d2)), (r, .inr (3, [.ref rd, .int (iI (((dl X : Nat) : Int))), .int (iI (pt))])), (rd, .inl (cB, 4200, .inl d))] H := hP
      have hD : va_D A [(r2, .inr (3, [.ref rd2, .int (iI (((dl X2 : Nat) : Int))), .int (iI (p2))])), (rd2, .inl (cB, 4200, .inl d2)), (r, .inr (3, [.ref rd, .int (iI (((dl X : Nat) : Int))), .int (iI (pt))])), (rd, .inl (cB, 4200, .inl d))] := hD
      refine ed_tz (y := (e1 : Int)) (by rw [hev1]) ?_
      refine lv_aload_n hx hb d_Ro_compare_44 rfl (lv_at hl 1 rfl) ?_
      refine ed_pc (pc' := 45) rfl ?_
      refine lv_iload_n hx hb d_Ro_compare_45 rfl (lv_at hl 2 rfl) ?_
      refine c_fi (wc := [(r2, .inr (3, [.ref rd2, .int (iI (((dl X2 : Nat) : Int))), .int (iI (p2))])), (rd2, .inl (cB, 4200, .inl d2))]) (wr := [(r, .inr (3, [.ref rd, .int (iI (((dl X : Nat) : Int))), .int (iI (pt))])), (rd, .inl (cB, 4200, .inl d))]) (va_runV (C := "ExactDigitsModel$Row") (As := [.int (iI (zp))]) (rest := [.int (iI ((e1 : Int)))]) ⟨hx, hb, hml, hown, hts⟩ (c_Ro_at l D cB cI cJ t5 ad r2 rd2 d2 p2 zp L X2 h412 hg2 (by omega) (by omega) (by omega) H.size) (cwV 1 hts (gV tw_491 tw_492 tw_493 tw_4 tw_494) rfl rfl rfl (by decide +kernel) ⟨Nat.le_of_ble_eq_true rfl, Nat.le_of_ble_eq_true rfl⟩) ⟨c_blind (eX_X t5 ad), va_recv (ci := 3) (q0 := 0) hK hP rfl rfl, fun U hU hW => c_pre (wc := [(r2, .inr (3, [.ref rd2, .int (iI (((dl X2 : Nat) : Int))), .int (iI (p2))])), (rd2, .inl (cB, 4200, .inl d2))]) (eX_X t5 ad) hE hK hP hD hS hA [0, 1] rfl (by decide) U hU hW⟩ rfl rfl hl.1 rfl (lv_room (Nat.le_of_ble_eq_true rfl)) d_Ro_compare_46 ⟨Nat.le_of_ble_eq_true rfl, Nat.le_of_ble_eq_true rfl⟩) hP hD hS hA [0, 1] [2, 3] rfl rfl (by decide) (by decide) (fun r u H locs hp hP hD hS => ?_)
      obtain ⟨rfl, rfl⟩ := hp
      have hP : va_P D ecl [(r, .inr (3, [.ref rd, .int (iI (((dl X : Nat) : Int))), .int (iI (pt))])), (rd, .inl (cB, 4200, .inl d)), (r2, .inr (3, [.ref rd2, .int (iI (((dl X2 : Nat) : Int))), .int (iI (p2))])), (rd2, .inl (cB, 4200, .inl d2))] H := hP
      have hD : va_D A [(r, .inr (3, [.ref rd, .int (iI (((dl X : Nat) : Int))), .int (iI (pt))])), (rd, .inl (cB, 4200, .inl d)), (r2, .inr (3, [.ref rd2, .int (iI (((dl X2 : Nat) : Int))), .int (iI (p2))])), (rd2, .inl (cB, 4200, .inl d2))] := hD
      refine ed_tz (y := (e2 : Int)) (by rw [hev2]) ?_
      refine ed_icmp_eq (tgt := 64) hx hb d_Ro_compare_49 rfl (by omega) (by omega) (fun h_2 => ?_) (fun h_2 => ?_)
      · skip
        refine ed_pc (pc' := 64) rfl ?_
        refine lv_iinc (k := 2) (v := iI (zp + (-1))) hx hb d_Ro_compare_64 hl rfl (iI_add _ _) (by decide) rfl (fun ls hl => ?_)
        have hl : lv_has ls 4 [(2, .int (iI (zp + (-1)))), (0, .ref r), (1, .ref r2), (3, .int (iI (zL)))] := hl
        refine lv_goto (tgt := 34) hx hb d_Ro_compare_67 rfl ?_
        have hl := lv_sub hl [1, 2, 0, 3] rfl
        exact ih _ (by omega) (k - 1) _ _ ls H locs rfl (by omega) (hzL) (by omega) (cmp_eq (k := k - 1) (by rw [hk1]; exact hq) (by omega)) hl hP hD hS
      · skip
        refine ed_pc (pc' := 52) rfl ?_
        refine lv_aload_n hx hb d_Ro_compare_52 rfl (lv_at hl 0 rfl) ?_
        refine lv_iload_n hx hb d_Ro_compare_53 rfl (lv_at hl 2 rfl) ?_
        refine c_fi (wc := [(r, .inr (3, [.ref rd, .int (iI (((dl X : Nat) : Int))), .int (iI (pt))])), (rd, .inl (cB, 4200, .inl d))]) (wr := [(r2, .inr (3, [.ref rd2, .int (iI (((dl X2 : Nat) : Int))), .int (iI (p2))])), (rd2, .inl (cB, 4200, .inl d2))]) (va_runV (C := "ExactDigitsModel$Row") (As := [.int (iI (zp))]) (rest := []) ⟨hx, hb, hml, hown, hts⟩ (c_Ro_at l D cB cI cJ t5 ad r rd d pt zp L X h41 hg (by omega) (by omega) (by omega) H.size) (cwV 1 hts (gV tw_491 tw_492 tw_493 tw_4 tw_494) rfl rfl rfl (by decide +kernel) ⟨Nat.le_of_ble_eq_true rfl, Nat.le_of_ble_eq_true rfl⟩) ⟨c_blind (eX_X t5 ad), va_recv (ci := 3) (q0 := 0) hK hP rfl rfl, fun U hU hW => c_pre (wc := [(r, .inr (3, [.ref rd, .int (iI (((dl X : Nat) : Int))), .int (iI (pt))])), (rd, .inl (cB, 4200, .inl d))]) (eX_X t5 ad) hE hK hP hD hS hA [0, 1] rfl (by decide) U hU hW⟩ rfl rfl hl.1 rfl (lv_room (Nat.le_of_ble_eq_true rfl)) d_Ro_compare_54 ⟨Nat.le_of_ble_eq_true rfl, Nat.le_of_ble_eq_true rfl⟩) hP hD hS hA [0, 1] [2, 3] rfl rfl (by decide) (by decide) (fun r u H locs hp hP hD hS => ?_)
        obtain ⟨rfl, rfl⟩ := hp
        have hP : va_P D ecl [(r2, .inr (3, [.ref rd2, .int (iI (((dl X2 : Nat) : Int))), .int (iI (p2))])), (rd2, .inl (cB, 4200, .inl d2)), (r, .inr (3, [.ref rd, .int (iI (((dl X : Nat) : Int))), .int (iI (pt))])), (rd, .inl (cB, 4200, .inl d))] H := hP
        have hD : va_D A [(r2, .inr (3, [.ref rd2, .int (iI (((dl X2 : Nat) : Int))), .int (iI (p2))])), (rd2, .inl (cB, 4200, .inl d2)), (r, .inr (3, [.ref rd, .int (iI (((dl X : Nat) : Int))), .int (iI (pt))])), (rd, .inl (cB, 4200, .inl d))] := hD
        refine ed_tz (y := (e1 : Int)) (by rw [hev1]) ?_
        refine lv_aload_n hx hb d_Ro_compare_57 rfl (lv_at hl 1 rfl) ?_
        refine lv_iload_n hx hb d_Ro_compare_58 rfl (lv_at hl 2 rfl) ?_
        refine ed_pc (pc' := 59) rfl ?_
        refine c_fi (wc := [(r2, .inr (3, [.ref rd2, .int (iI (((dl X2 : Nat) : Int))), .int (iI (p2))])), (rd2, .inl (cB, 4200, .inl d2))]) (wr := [(r, .inr (3, [.ref rd, .int (iI (((dl X : Nat) : Int))), .int (iI (pt))])), (rd, .inl (cB, 4200, .inl d))]) (va_runV (C := "ExactDigitsModel$Row") (As := [.int (iI (zp))]) (rest := [.int (iI ((e1 : Int)))]) ⟨hx, hb, hml, hown, hts⟩ (c_Ro_at l D cB cI cJ t5 ad r2 rd2 d2 p2 zp L X2 h412 hg2 (by omega) (by omega) (by omega) H.size) (cwV 1 hts (gV tw_491 tw_492 tw_493 tw_4 tw_494) rfl rfl rfl (by decide +kernel) ⟨Nat.le_of_ble_eq_true rfl, Nat.le_of_ble_eq_true rfl⟩) ⟨c_blind (eX_X t5 ad), va_recv (ci := 3) (q0 := 0) hK hP rfl rfl, fun U hU hW => c_pre (wc := [(r2, .inr (3, [.ref rd2, .int (iI (((dl X2 : Nat) : Int))), .int (iI (p2))])), (rd2, .inl (cB, 4200, .inl d2))]) (eX_X t5 ad) hE hK hP hD hS hA [0, 1] rfl (by decide) U hU hW⟩ rfl rfl hl.1 rfl (lv_room (Nat.le_of_ble_eq_true rfl)) d_Ro_compare_59 ⟨Nat.le_of_ble_eq_true rfl, Nat.le_of_ble_eq_true rfl⟩) hP hD hS hA [0, 1] [2, 3] rfl rfl (by decide) (by decide) (fun r u H locs hp hP hD hS => ?_)
        obtain ⟨rfl, rfl⟩ := hp
        have hP : va_P D ecl [(r, .inr (3, [.ref rd, .int (iI (((dl X : Nat) : Int))), .int (iI (pt))])), (rd, .inl (cB, 4200, .inl d)), (r2, .inr (3, [.ref rd2, .int (iI (((dl X2 : Nat) : Int))), .int (iI (p2))])), (rd2, .inl (cB, 4200, .inl d2))] H := hP
        have hD : va_D A [(r, .inr (3, [.ref rd, .int (iI (((dl X : Nat) : Int))), .int (iI (pt))])), (rd, .inl (cB, 4200, .inl d)), (r2, .inr (3, [.ref rd2, .int (iI (((dl X2 : Nat) : Int))), .int (iI (p2))])), (rd2, .inl (cB, 4200, .inl d2))] := hD
        refine ed_tz (y := (e2 : Int)) (by rw [hev2]) ?_
        refine ed_isub hx hb d_Ro_compare_62 ?_
        have hq1 : N / 10 ^ (k - 1 + 1) = N2 / 10 ^ (k - 1 + 1) := by rw [hk1]; exact hq
        have hA1 : e1 < e2 → N < N2 := fun z => cmp_lt hq1 (by omega)
        have hA2 : e2 < e1 → N2 < N := fun z => cmp_lt hq1.symm (by omega)
        exact W.iret (v := (iI (((e1 : Int)) - ((e2 : Int))))) hx hb hr (fun t9 ht9 hW9 => ⟨⟨(iI (((e1 : Int)) - ((e2 : Int)))), [(r, .inr (3, [.ref rd, .int (iI (((dl X : Nat) : Int))), .int (iI (pt))])), (rd, .inl (cB, 4200, .inl d)), (r2, .inr (3, [.ref rd2, .int (iI (((dl X2 : Nat) : Int))), .int (iI (p2))])), (rd2, .inl (cB, 4200, .inl d2))], rfl, ⟨⟨_, rfl, by omega, by omega, by omega, by omega⟩, rfl⟩, by rw [ht9]; exact hP, hD⟩, hS.F ht9⟩) hS.2.2 d_Ro_compare_63
  refine lv_aload_n hx hb d_Ro_compare_0 rfl (lv_at hl 0 rfl) ?_
  refine va_get (D := D) (ci := 3) (v := .int (iI (pt))) (C := R_Ro) (T := T_Ro) (N := 3) hx hb hts (fun w h => List.mem_cons_of_mem _ (in_Ro w h)) hown hK hP 0 rfl rfl 2 (by decide) (hts _ (List.mem_cons_of_mem _ tw_363)) (fun _ h9 => h9) rfl d_Ro_compare_1 ?_
  refine lv_aload_n hx hb d_Ro_compare_4 rfl (lv_at hl 1 rfl) ?_
  refine va_get (D := D) (ci := 3) (v := .int (iI (p2))) (C := R_Ro) (T := T_Ro) (N := 3) hx hb hts (fun w h => List.mem_cons_of_mem _ (in_Ro w h)) hown hK hP 2 rfl rfl 2 (by decide) (hts _ (List.mem_cons_of_mem _ tw_363)) (fun _ h9 => h9) rfl d_Ro_compare_5 ?_
  refine ed_max hx hb (hml.trans hl.1.symm) hown (hts _ (List.mem_cons_of_mem _ tw_489)) (hts _ (List.mem_cons_of_mem _ tw_146)) (hts _ (List.mem_cons_of_mem _ tw_6)) (hts _ (List.mem_cons_of_mem _ tw_147)) (Nat.le_of_ble_eq_true rfl) (Nat.le_of_ble_eq_true rfl) (Nat.le_of_ble_eq_true rfl) (Nat.le_of_ble_eq_true rfl) (by omega) (by omega) d_Ro_compare_8 ?_
  refine lv_istore_n hx hb d_Ro_compare_11 rfl hl (by decide) rfl (fun ls hl => ?_)
  have hl : lv_has ls 4 [(2, .int (iI (max (pt) (p2)))), (0, .ref r), (1, .ref r2)] := hl
  refine lv_aload_n hx hb d_Ro_compare_12 rfl (lv_at hl 1 rfl) ?_
  refine ed_pc (pc' := 13) rfl ?_
  refine va_get (D := D) (ci := 3) (v := .int (iI (pt))) (C := R_Ro) (T := T_Ro) (N := 3) hx hb hts (fun w h => List.mem_cons_of_mem _ (in_Ro w h)) hown hK hP 0 rfl rfl 2 (by decide) (hts _ (List.mem_cons_of_mem _ tw_363)) (fun _ h9 => h9) rfl d_Ro_compare_13 ?_
  refine lv_aload_n hx hb d_Ro_compare_16 rfl (lv_at hl 1 rfl) ?_
  refine va_get (D := D) (ci := 3) (v := .int (iI (((dl X : Nat) : Int)))) (C := R_Ro) (T := T_Ro) (N := 3) hx hb hts (fun w h => List.mem_cons_of_mem _ (in_Ro w h)) hown hK hP 0 rfl rfl 1 (by decide) (hts _ (List.mem_cons_of_mem _ tw_361)) (fun _ h9 => h9) rfl d_Ro_compare_17 ?_
  refine ed_isub hx hb d_Ro_compare_20 ?_
  refine lv_aload_n hx hb d_Ro_compare_21 rfl (lv_at hl 2 rfl) ?_
  refine va_get (D := D) (ci := 3) (v := .int (iI (p2))) (C := R_Ro) (T := T_Ro) (N := 3) hx hb hts (fun w h => List.mem_cons_of_mem _ (in_Ro w h)) hown hK hP 2 rfl rfl 2 (by decide) (hts _ (List.mem_cons_of_mem _ tw_363)) (fun _ h9 => h9) rfl d_Ro_compare_22 ?_
  refine lv_aload_n hx hb d_Ro_compare_25 rfl (lv_at hl 2 rfl) ?_
  refine va_get (D := D) (ci := 3) (v := .int (iI (((dl X2 : Nat) : Int)))) (C := R_Ro) (T := T_Ro) (N := 3) hx hb hts (fun w h => List.mem_cons_of_mem _ (in_Ro w h)) hown hK hP 2 rfl rfl 1 (by decide) (hts _ (List.mem_cons_of_mem _ tw_361)) (fun _ h9 => h9) rfl d_Ro_compare_26 ?_
  refine ed_pc (pc' := 29) rfl ?_
  refine ed_isub hx hb d_Ro_compare_29 ?_
  refine ed_min hx hb (hml.trans hl.1.symm) hown (hts _ (List.mem_cons_of_mem _ tw_490)) (hts _ (List.mem_cons_of_mem _ tw_84)) (hts _ (List.mem_cons_of_mem _ tw_6)) (hts _ (List.mem_cons_of_mem _ tw_85)) (Nat.le_of_ble_eq_true rfl) (Nat.le_of_ble_eq_true rfl) (Nat.le_of_ble_eq_true rfl) (Nat.le_of_ble_eq_true rfl) (by omega) (by omega) d_Ro_compare_30 ?_
  refine lv_istore_n hx hb d_Ro_compare_33 rfl hl (by decide) rfl (fun ls hl => ?_)
  have hl : lv_has ls 4 [(3, .int (iI (min ((pt) - (((dl X : Nat) : Int))) ((p2) - (((dl X2 : Nat) : Int)))))), (2, .int (iI (max (pt) (p2)))), (0, .ref r), (1, .ref r2)] := hl
  have hl := lv_sub hl [2, 3, 1, 0] rfl
  exact L34 _ ((max pt p2 - L).toNat) _ _ ls s.heap [] rfl (by omega) (by omega) (by omega) (by rw [hN, hN2, cmp_0 (by omega), cmp_0 (by omega)]) hl hP hD hS
