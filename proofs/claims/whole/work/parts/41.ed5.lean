set_option maxHeartbeats 4000000 in
set_option maxRecDepth 100000 in
theorem c_Ed_move (l : Launch) (D : va_G) (cB cI cJ : ClassId) (t5 : Nat) (ad : Nat → Nat) (x dg q : Nat) (g : Nat → Int32) (pt zl k : Int) (X : Nat) (hX12 : dl X ≤ 1200) (hpt : -100000000 ≤ pt ∧ pt ≤ 100000000) (hk : -5000 ≤ k ∧ k ≤ 5000) (hm : X = 0 ∨ (-10000 ≤ pt + k ∧ pt + k ≤ 10000)) : c_I l m_Ed_move (Cond.code m_Ed_move b_Ed_move 3 (some .int) :: gw) (rm_ 6 90) (eX t5 ad) D ecl (tyS cB cI cJ) [.ref x, .int (iI (k))] [(x, .inr (1, [.ref dg, .int (iI (((dl X : Nat) : Int))), .int (iI (pt)), .int (iI (zl)), .ref q])), (dg, .inl (cB, 1200, .inl g))] (fun r u => r = iI (if X = 0 then 0 else pt + k) ∧ u = [(x, .inr (1, [.ref dg, .int (iI (((dl X : Nat) : Int))), .int (iI (if X = 0 then pt else pt + k)), .int (iI (zl)), .ref q])), (dg, .inl (cB, 1200, .inl g))]) 0 0 := by
  intro sz0
  refine Met.ofW (cc := b_Ed_move) (maxL := 3) (ret := (some .int)) (by decide) rfl ?_
  intro p e s m args below meth c s₁ B hml hv
  obtain ⟨rfl, hsz, hP, hK, hD0, hE⟩ := hv
  have hx := B.exec
  have hb := B.bytes
  have hr := B.returns
  have hts := atoms_spec (ws := Cond.code m_Ed_move b_Ed_move 3 (some .int) :: gw) B.pre
  have hown : s.vm.findClass R_Ed = some m.cls := findClass_of_methodNamed B.named
  have hlocks := B.notSynchronized
  subst hsz
  have hD := hD0.self (sz := s.heap.size)
  generalize hAe : va_A [(x, .inr (1, [.ref dg, .int (iI (((dl X : Nat) : Int))), .int (iI (pt)), .int (iI (zl)), .ref q])), (dg, .inl (cB, 1200, .inl g))] s.heap.size = A at hD hE ⊢
  have hA : ∀ q : Nat, s.heap.size ≤ q → A q := fun q h => by rw [← hAe]; exact Or.inr h
  have hS : va_S A s.heap s.heap [] := va_S.rf
  have hl := lv_entry ([.ref x, .int (iI (k))]) (n := 3) (Nat.le_of_ble_eq_true rfl)
  rw [lg_entry_eq]
  generalize (lg_sl ([.ref x, .int (iI (k))]) ++ List.replicate (3 - (lg_sl ([.ref x, .int (iI (k))])).length) Slot.unset).toArray = ls at hl ⊢
  have hl : lv_has ls 3 [(0, .ref x), (1, .int (iI (k)))] := hl
  have hd0 : dl X = 0 ↔ X = 0 := ⟨fun z => dl_eq0 z, fun z => by rw [z, dl_0]⟩
  refine lv_iload_n hx hb d_Ed_move_0 rfl (lv_at hl 1 rfl) ?_
  refine lv_sipush (v := iI 5000) hx hb d_Ed_move_1 (by decide +kernel) ?_
  refine c_fi (wc := []) (wr := [(x, .inr (1, [.ref dg, .int (iI (((dl X : Nat) : Int))), .int (iI (pt)), .int (iI (zl)), .ref q])), (dg, .inl (cB, 1200, .inl g))]) (va_runS (As := [.int (iI (k)), .int (iI (5000))]) (rest := []) ⟨hx, hb, hml, hown, hts⟩ (c_Ed_isBeyond l D cB cI cJ t5 ad (k) 5000 (by omega) (by omega) s.heap.size) (va_cwS 2 hts (gS tw_281 tw_282 tw_1 tw_283) rfl rfl rfl (by decide +kernel) ⟨Nat.le_of_ble_eq_true rfl, Nat.le_of_ble_eq_true rfl⟩) ⟨c_blind (eX_X t5 ad), fun U hU hW => c_pre (wc := []) (eX_X t5 ad) hE hK hP hD hS hA [] rfl (by decide) U hU hW⟩ rfl rfl hl.1 rfl (lv_room (Nat.le_of_ble_eq_true rfl)) d_Ed_move_4 ⟨Nat.le_of_ble_eq_true rfl, Nat.le_of_ble_eq_true rfl⟩) hP hD hS hA [] [0, 1] rfl rfl (by decide) (by decide) (fun r u H locs hp hP hD hS => ?_)
  obtain ⟨rfl, rfl⟩ := hp
  have hP : va_P D ecl [(x, .inr (1, [.ref dg, .int (iI (((dl X : Nat) : Int))), .int (iI (pt)), .int (iI (zl)), .ref q])), (dg, .inl (cB, 1200, .inl g))] H := hP
  have hD : va_D A [(x, .inr (1, [.ref dg, .int (iI (((dl X : Nat) : Int))), .int (iI (pt)), .int (iI (zl)), .ref q])), (dg, .inl (cB, 1200, .inl g))] := hD
  obtain ⟨zb, hzb, hzb2⟩ : ∃ zb : Int, zb = (if k < -5000 ∨ 5000 < k then 1 else 0) ∧ ((zb = 1 ∧ (k < -5000 ∨ 5000 < k)) ∨ (zb = 0 ∧ ¬ (k < -5000 ∨ 5000 < k))) := ⟨_, rfl, by split <;> simp_all⟩
  refine ed_tz (y := zb) (hzb.symm) ?_
  refine ed_if_eq (tgt := 18) hx hb d_Ed_move_7 rfl (by omega) (fun h_1 => ?_) (fun h_1 => ?_)
  · skip
    refine ed_pc (pc' := 18) rfl ?_
    refine lv_aload_n hx hb d_Ed_move_18 rfl (lv_at hl 0 rfl) ?_
    refine va_get (D := D) (ci := 1) (v := .int (iI (((dl X : Nat) : Int)))) (C := R_Ed) (T := T_Ed) (N := 5) hx hb hts (fun w h => List.mem_cons_of_mem _ (in_Ed w h)) hown hK hP 0 rfl rfl 1 (by decide) (hts _ (List.mem_cons_of_mem _ tw_41)) (fun _ h9 => h9) rfl d_Ed_move_19 ?_
    refine ed_if_ne (tgt := 27) hx hb d_Ed_move_22 rfl (by omega) (fun h_2 => ?_) (fun h_2 => ?_)
    · skip
      refine ed_pc (pc' := 27) rfl ?_
      refine ed_pc (pc' := 27) rfl ?_
      refine lv_aload_n hx hb d_Ed_move_27 rfl (lv_at hl 0 rfl) ?_
      refine va_get (D := D) (ci := 1) (v := .int (iI (pt))) (C := R_Ed) (T := T_Ed) (N := 5) hx hb hts (fun w h => List.mem_cons_of_mem _ (in_Ed w h)) hown hK hP 0 rfl rfl 2 (by decide) (hts _ (List.mem_cons_of_mem _ tw_42)) (fun _ h9 => h9) rfl d_Ed_move_28 ?_
      refine lv_iload_n hx hb d_Ed_move_31 rfl (lv_at hl 1 rfl) ?_
      refine ed_iadd hx hb d_Ed_move_32 ?_
      refine lv_istore_n hx hb d_Ed_move_33 rfl hl (by decide) rfl (fun ls hl => ?_)
      have hl : lv_has ls 3 [(2, .int (iI ((pt) + (k)))), (0, .ref x), (1, .int (iI (k)))] := hl
      refine lv_iload_n hx hb d_Ed_move_34 rfl (lv_at hl 0 rfl) ?_
      refine lv_sipush (v := iI 10000) hx hb d_Ed_move_35 (by decide +kernel) ?_
      refine c_fi (wc := []) (wr := [(x, .inr (1, [.ref dg, .int (iI (((dl X : Nat) : Int))), .int (iI (pt)), .int (iI (zl)), .ref q])), (dg, .inl (cB, 1200, .inl g))]) (va_runS (As := [.int (iI ((pt) + (k))), .int (iI (10000))]) (rest := []) ⟨hx, hb, hml, hown, hts⟩ (c_Ed_isBeyond l D cB cI cJ t5 ad (pt + k) 10000 (by omega) (by omega) H.size) (va_cwS 2 hts (gS tw_281 tw_282 tw_1 tw_283) rfl rfl rfl (by decide +kernel) ⟨Nat.le_of_ble_eq_true rfl, Nat.le_of_ble_eq_true rfl⟩) ⟨c_blind (eX_X t5 ad), fun U hU hW => c_pre (wc := []) (eX_X t5 ad) hE hK hP hD hS hA [] rfl (by decide) U hU hW⟩ rfl rfl hl.1 rfl (lv_room (Nat.le_of_ble_eq_true rfl)) d_Ed_move_38 ⟨Nat.le_of_ble_eq_true rfl, Nat.le_of_ble_eq_true rfl⟩) hP hD hS hA [] [0, 1] rfl rfl (by decide) (by decide) (fun r u H locs hp hP hD hS => ?_)
      obtain ⟨rfl, rfl⟩ := hp
      have hP : va_P D ecl [(x, .inr (1, [.ref dg, .int (iI (((dl X : Nat) : Int))), .int (iI (pt)), .int (iI (zl)), .ref q])), (dg, .inl (cB, 1200, .inl g))] H := hP
      have hD : va_D A [(x, .inr (1, [.ref dg, .int (iI (((dl X : Nat) : Int))), .int (iI (pt)), .int (iI (zl)), .ref q])), (dg, .inl (cB, 1200, .inl g))] := hD
      obtain ⟨zb, hzb, hzb2⟩ : ∃ zb : Int, zb = (if pt + k < -10000 ∨ 10000 < pt + k then 1 else 0) ∧ ((zb = 1 ∧ (pt + k < -10000 ∨ 10000 < pt + k)) ∨ (zb = 0 ∧ ¬ (pt + k < -10000 ∨ 10000 < pt + k))) := ⟨_, rfl, by split <;> simp_all⟩
      refine ed_tz (y := zb) (hzb.symm) ?_
      refine ed_pc (pc' := 41) rfl ?_
      refine ed_if_eq (tgt := 52) hx hb d_Ed_move_41 rfl (by omega) (fun h_3 => ?_) (fun h_3 => ?_)
      · skip
        refine ed_pc (pc' := 52) rfl ?_
        refine lv_aload_n hx hb d_Ed_move_52 rfl (lv_at hl 1 rfl) ?_
        refine lv_iload_n hx hb d_Ed_move_53 rfl (lv_at hl 0 rfl) ?_
        refine va_put (D := D) (ci := 1) (v := .int (iI ((pt) + (k)))) (ty := .int) (C := R_Ed) (T := T_Ed) (N := 5) hx hb hts (fun w h => List.mem_cons_of_mem _ (in_Ed w h)) y_Ed t_Ed n_Ed hown hK hP hD hS 0 rfl rfl 2 (by decide) (hts _ (List.mem_cons_of_mem _ tw_42)) (fun _ h9 => h9) rfl (by decide +kernel) rfl rfl (Nat.le_of_ble_eq_true rfl) d_Ed_move_54 (fun H locs hP hD hS => ?_)
        have hP : va_P D ecl [(x, .inr (1, [.ref dg, .int (iI (((dl X : Nat) : Int))), .int (iI ((pt) + (k))), .int (iI (zl)), .ref q])), (dg, .inl (cB, 1200, .inl g))] H := hP
        have hD : va_D A [(x, .inr (1, [.ref dg, .int (iI (((dl X : Nat) : Int))), .int (iI ((pt) + (k))), .int (iI (zl)), .ref q])), (dg, .inl (cB, 1200, .inl g))] := hD
        refine lv_aload_n hx hb d_Ed_move_57 rfl (lv_at hl 1 rfl) ?_
        refine va_get (D := D) (ci := 1) (v := .int (iI ((pt) + (k)))) (C := R_Ed) (T := T_Ed) (N := 5) hx hb hts (fun w h => List.mem_cons_of_mem _ (in_Ed w h)) hown hK hP 0 rfl rfl 2 (by decide) (hts _ (List.mem_cons_of_mem _ tw_42)) (fun _ h9 => h9) rfl d_Ed_move_58 ?_
        exact W.iret (v := (iI ((pt) + (k)))) hx hb hr (fun t9 ht9 hW9 => ⟨⟨(iI ((pt) + (k))), [(x, .inr (1, [.ref dg, .int (iI (((dl X : Nat) : Int))), .int (iI ((pt) + (k))), .int (iI (zl)), .ref q])), (dg, .inl (cB, 1200, .inl g))], rfl, ⟨by rw [if_neg (by omega)], by rw [if_neg (by omega)]⟩, by rw [ht9]; exact hP, hD⟩, hS.F ht9⟩) hS.2.2 d_Ed_move_61
      · exact absurd h_3 (by omega)
    · skip
      refine ed_pc (pc' := 25) rfl ?_
      refine ed_pc (pc' := 25) rfl ?_
      refine lv_iconst (v := iI 0) hx hb d_Ed_move_25 rfl ?_
      exact W.iret (v := (iI (0))) hx hb hr (fun t9 ht9 hW9 => ⟨⟨(iI (0)), [(x, .inr (1, [.ref dg, .int (iI (((dl X : Nat) : Int))), .int (iI (pt)), .int (iI (zl)), .ref q])), (dg, .inl (cB, 1200, .inl g))], rfl, ⟨by rw [if_pos (by omega)], by rw [if_pos (by omega)]⟩, by rw [ht9]; exact hP, hD⟩, hS.F ht9⟩) hS.2.2 d_Ed_move_26
  · exact absurd h_1 (by omega)
set_option maxHeartbeats 4000000 in
set_option maxRecDepth 100000 in
theorem c_Ed_move_no (l : Launch) (hl0 : l.stackTraces = false) (D : va_G) (cB cI cJ : ClassId) (t5 : Nat) (ad : Nat → Nat) (x dg q : Nat) (g : Nat → Int32) (pt zl k : Int) (X : Nat) (hX12 : dl X ≤ 1200) (hpt : -100000000 ≤ pt ∧ pt ≤ 100000000) (hk : iR k) (hm : k < -5000 ∨ 5000 < k ∨ (¬ X = 0 ∧ (pt + k < -10000 ∨ 10000 < pt + k))) : c_T l m_Ed_move (Cond.code m_Ed_move b_Ed_move 3 (some .int) :: gw) (rmx_ 6 90) (eX t5 ad) D ecl (tyS cB cI cJ) [.ref x, .int (iI (k))] [(x, .inr (1, [.ref dg, .int (iI (((dl X : Nat) : Int))), .int (iI (pt)), .int (iI (zl)), .ref q])), (dg, .inl (cB, 1200, .inl g))] xIA := by
  intro sz0
  refine vx_ofW (cc := b_Ed_move) (maxL := 3) (ret := (some .int)) (by decide) rfl ?_
  intro p e s m args below meth c s₁ B hml htab hv
  obtain ⟨rfl, hsz, hP, hK, hD0, hE⟩ := hv
  have hx := B.exec
  have hb := B.bytes
  have hr := B.returns
  have hts := atoms_spec (ws := Cond.code m_Ed_move b_Ed_move 3 (some .int) :: gw) B.pre
  have hown : s.vm.findClass R_Ed = some m.cls := findClass_of_methodNamed B.named
  have hlocks := B.notSynchronized
  subst hsz
  have hD := hD0.self (sz := s.heap.size)
  generalize hAe : va_A [(x, .inr (1, [.ref dg, .int (iI (((dl X : Nat) : Int))), .int (iI (pt)), .int (iI (zl)), .ref q])), (dg, .inl (cB, 1200, .inl g))] s.heap.size = A at hD hE ⊢
  have hA : ∀ q : Nat, s.heap.size ≤ q → A q := fun q h => by rw [← hAe]; exact Or.inr h
  have hS : va_S A s.heap s.heap [] := va_S.rf
  have hl := lv_entry ([.ref x, .int (iI (k))]) (n := 3) (Nat.le_of_ble_eq_true rfl)
  rw [lg_entry_eq]
  generalize (lg_sl ([.ref x, .int (iI (k))]) ++ List.replicate (3 - (lg_sl ([.ref x, .int (iI (k))])).length) Slot.unset).toArray = ls at hl ⊢
  have hl : lv_has ls 3 [(0, .ref x), (1, .int (iI (k)))] := hl
  have hd0 : dl X = 0 ↔ X = 0 := ⟨fun z => dl_eq0 z, fun z => by rw [z, dl_0]⟩
  refine lv_iload_n hx hb d_Ed_move_0 rfl (lv_at hl 1 rfl) ?_
  refine lv_sipush (v := iI 5000) hx hb d_Ed_move_1 (by decide +kernel) ?_
  refine c_fi (wc := []) (wr := [(x, .inr (1, [.ref dg, .int (iI (((dl X : Nat) : Int))), .int (iI (pt)), .int (iI (zl)), .ref q])), (dg, .inl (cB, 1200, .inl g))]) (va_runS (As := [.int (iI (k)), .int (iI (5000))]) (rest := []) ⟨hx, hb, hml, hown, hts⟩ (c_Ed_isBeyond l D cB cI cJ t5 ad (k) 5000 (by omega) (by omega) s.heap.size) (va_cwS 2 hts (gS tw_281 tw_282 tw_1 tw_283) rfl rfl rfl (by decide +kernel) ⟨Nat.le_of_ble_eq_true rfl, Nat.le_of_ble_eq_true rfl⟩) ⟨c_blind (eX_X t5 ad), fun U hU hW => c_pre (wc := []) (eX_X t5 ad) hE hK hP hD hS hA [] rfl (by decide) U hU hW⟩ rfl rfl hl.1 rfl (lv_room (Nat.le_of_ble_eq_true rfl)) d_Ed_move_4 ⟨Nat.le_of_ble_eq_true rfl, Nat.le_of_ble_eq_true rfl⟩) hP hD hS hA [] [0, 1] rfl rfl (by decide) (by decide) (fun r u H locs hp hP hD hS => ?_)
  obtain ⟨rfl, rfl⟩ := hp
  have hP : va_P D ecl [(x, .inr (1, [.ref dg, .int (iI (((dl X : Nat) : Int))), .int (iI (pt)), .int (iI (zl)), .ref q])), (dg, .inl (cB, 1200, .inl g))] H := hP
  have hD : va_D A [(x, .inr (1, [.ref dg, .int (iI (((dl X : Nat) : Int))), .int (iI (pt)), .int (iI (zl)), .ref q])), (dg, .inl (cB, 1200, .inl g))] := hD
  obtain ⟨zb, hzb, hzb2⟩ : ∃ zb : Int, zb = (if k < -5000 ∨ 5000 < k then 1 else 0) ∧ ((zb = 1 ∧ (k < -5000 ∨ 5000 < k)) ∨ (zb = 0 ∧ ¬ (k < -5000 ∨ 5000 < k))) := ⟨_, rfl, by split <;> simp_all⟩
  refine ed_tz (y := zb) (hzb.symm) ?_
  refine ed_if_eq (tgt := 18) hx hb d_Ed_move_7 rfl (by omega) (fun h_1 => ?_) (fun h_1 => ?_)
  · skip
    refine ed_pc (pc' := 18) rfl ?_
    refine lv_aload_n hx hb d_Ed_move_18 rfl (lv_at hl 0 rfl) ?_
    refine va_get (D := D) (ci := 1) (v := .int (iI (((dl X : Nat) : Int)))) (C := R_Ed) (T := T_Ed) (N := 5) hx hb hts (fun w h => List.mem_cons_of_mem _ (in_Ed w h)) hown hK hP 0 rfl rfl 1 (by decide) (hts _ (List.mem_cons_of_mem _ tw_41)) (fun _ h9 => h9) rfl d_Ed_move_19 ?_
    refine ed_if_ne (tgt := 27) hx hb d_Ed_move_22 rfl (by omega) (fun h_2 => ?_) (fun h_2 => ?_)
    · skip
      refine ed_pc (pc' := 27) rfl ?_
      refine ed_pc (pc' := 27) rfl ?_
      refine lv_aload_n hx hb d_Ed_move_27 rfl (lv_at hl 0 rfl) ?_
      refine va_get (D := D) (ci := 1) (v := .int (iI (pt))) (C := R_Ed) (T := T_Ed) (N := 5) hx hb hts (fun w h => List.mem_cons_of_mem _ (in_Ed w h)) hown hK hP 0 rfl rfl 2 (by decide) (hts _ (List.mem_cons_of_mem _ tw_42)) (fun _ h9 => h9) rfl d_Ed_move_28 ?_
      refine lv_iload_n hx hb d_Ed_move_31 rfl (lv_at hl 1 rfl) ?_
      refine ed_iadd hx hb d_Ed_move_32 ?_
      refine lv_istore_n hx hb d_Ed_move_33 rfl hl (by decide) rfl (fun ls hl => ?_)
      have hl : lv_has ls 3 [(2, .int (iI ((pt) + (k)))), (0, .ref x), (1, .int (iI (k)))] := hl
      refine lv_iload_n hx hb d_Ed_move_34 rfl (lv_at hl 0 rfl) ?_
      refine lv_sipush (v := iI 10000) hx hb d_Ed_move_35 (by decide +kernel) ?_
      refine c_fi (wc := []) (wr := [(x, .inr (1, [.ref dg, .int (iI (((dl X : Nat) : Int))), .int (iI (pt)), .int (iI (zl)), .ref q])), (dg, .inl (cB, 1200, .inl g))]) (va_runS (As := [.int (iI ((pt) + (k))), .int (iI (10000))]) (rest := []) ⟨hx, hb, hml, hown, hts⟩ (c_Ed_isBeyond l D cB cI cJ t5 ad (pt + k) 10000 (by omega) (by omega) H.size) (va_cwS 2 hts (gS tw_281 tw_282 tw_1 tw_283) rfl rfl rfl (by decide +kernel) ⟨Nat.le_of_ble_eq_true rfl, Nat.le_of_ble_eq_true rfl⟩) ⟨c_blind (eX_X t5 ad), fun U hU hW => c_pre (wc := []) (eX_X t5 ad) hE hK hP hD hS hA [] rfl (by decide) U hU hW⟩ rfl rfl hl.1 rfl (lv_room (Nat.le_of_ble_eq_true rfl)) d_Ed_move_38 ⟨Nat.le_of_ble_eq_true rfl, Nat.le_of_ble_eq_true rfl⟩) hP hD hS hA [] [0, 1] rfl rfl (by decide) (by decide) (fun r u H locs hp hP hD hS => ?_)
      obtain ⟨rfl, rfl⟩ := hp
      have hP : va_P D ecl [(x, .inr (1, [.ref dg, .int (iI (((dl X : Nat) : Int))), .int (iI (pt)), .int (iI (zl)), .ref q])), (dg, .inl (cB, 1200, .inl g))] H := hP
      have hD : va_D A [(x, .inr (1, [.ref dg, .int (iI (((dl X : Nat) : Int))), .int (iI (pt)), .int (iI (zl)), .ref q])), (dg, .inl (cB, 1200, .inl g))] := hD
      obtain ⟨zb, hzb, hzb2⟩ : ∃ zb : Int, zb = (if pt + k < -10000 ∨ 10000 < pt + k then 1 else 0) ∧ ((zb = 1 ∧ (pt + k < -10000 ∨ 10000 < pt + k)) ∨ (zb = 0 ∧ ¬ (pt + k < -10000 ∨ 10000 < pt + k))) := ⟨_, rfl, by split <;> simp_all⟩
      refine ed_tz (y := zb) (hzb.symm) ?_
      refine ed_pc (pc' := 41) rfl ?_
      refine ed_if_eq (tgt := 52) hx hb d_Ed_move_41 rfl (by omega) (fun h_3 => ?_) (fun h_3 => ?_)
      · exact absurd h_3 (by omega)
      · skip
        refine ed_pc (pc' := 44) rfl ?_
        exact vx_throw0 (own := "ExactDigits") (cls := xIA) (names := xNm) (rest := []) hx hb hl0 hown (by decide +kernel) (by decide +kernel) (hts _ (List.mem_cons_of_mem _ tw_284)) (hts _ (List.mem_cons_of_mem _ tw_15)) (vx_hat (fun w h => hts w (List.mem_cons_of_mem _ (ta_IA w h))) tb_IA (eW_IA hE.2.2.2.2.2.2.2.2.2.2.2)) tg_IA hE.2.2.2.2.2.2.2.2.2.1 hE.2.2.2.2.2.2.2.2.2.2.1 hS (hl.1.trans hml.symm) d_Ed_move_44 d_Ed_move_47 d_Ed_move_48 d_Ed_move_51 (fun x h => (htab x h).elim) (Nat.le_of_ble_eq_true rfl) (Nat.le_of_ble_eq_true rfl) (Nat.le_of_ble_eq_true rfl) (Nat.le_of_ble_eq_true rfl) hlocks (fun t9 hv9 hz9 hk9 => c_xc hP hD hS hz9 hk9) hS.2.2 (Nat.le_of_ble_eq_true rfl) (Nat.le_of_ble_eq_true rfl)
    · exact absurd h_2 (by omega)
  · skip
    refine ed_pc (pc' := 10) rfl ?_
    exact vx_throw0 (own := "ExactDigits") (cls := xIA) (names := xNm) (rest := []) hx hb hl0 hown (by decide +kernel) (by decide +kernel) (hts _ (List.mem_cons_of_mem _ tw_284)) (hts _ (List.mem_cons_of_mem _ tw_15)) (vx_hat (fun w h => hts w (List.mem_cons_of_mem _ (ta_IA w h))) tb_IA (eW_IA hE.2.2.2.2.2.2.2.2.2.2.2)) tg_IA hE.2.2.2.2.2.2.2.2.2.1 hE.2.2.2.2.2.2.2.2.2.2.1 hS (hl.1.trans hml.symm) d_Ed_move_10 d_Ed_move_13 d_Ed_move_14 d_Ed_move_17 (fun x h => (htab x h).elim) (Nat.le_of_ble_eq_true rfl) (Nat.le_of_ble_eq_true rfl) (Nat.le_of_ble_eq_true rfl) (Nat.le_of_ble_eq_true rfl) hlocks (fun t9 hv9 hz9 hk9 => c_xc hP hD hS hz9 hk9) hS.2.2 (Nat.le_of_ble_eq_true rfl) (Nat.le_of_ble_eq_true rfl)
set_option maxHeartbeats 4000000 in
set_option maxRecDepth 100000 in
theorem c_Ed_cut (l : Launch) (D : va_G) (cB cI cJ : ClassId) (t5 : Nat) (ad : Nat → Nat) (x dg q : Nat) (g : Nat → Int32) (pt zl n : Int) (X : Nat) (hnm : nm_ok g X) (hpt : -100000000 ≤ pt ∧ pt ≤ 100000000) (hk : -2000 ≤ n ∧ n ≤ 2000) : c_I l m_Ed_cut (Cond.code m_Ed_cut b_Ed_cut 2 (some .int) :: gw) (rm_ 6 90) (eX t5 ad) D ecl (tyS cB cI cJ) [.ref x, .int (iI (n))] [(x, .inr (1, [.ref dg, .int (iI (((dl X : Nat) : Int))), .int (iI (pt)), .int (iI (zl)), .ref q])), (dg, .inl (cB, 1200, .inl g))] (fun r u => r = iI ((dl (rz (kfY X (pt + n))) : Nat) : Int) ∧ nm_ok g (rz (kfY X (pt + n))) ∧ u = [(x, .inr (1, [.ref dg, .int (iI (((dl (rz (kfY X (pt + n))) : Nat) : Int))), .int (iI (if kfY X (pt + n) = 0 then 0 else pt)), .int (iI (0)), .ref q])), (dg, .inl (cB, 1200, .inl g))]) 0 0 := by
  intro sz0
  refine Met.ofW (cc := b_Ed_cut) (maxL := 2) (ret := (some .int)) (by decide) rfl ?_
  intro p e s m args below meth c s₁ B hml hv
  obtain ⟨rfl, hsz, hP, hK, hD0, hE⟩ := hv
  have hx := B.exec
  have hb := B.bytes
  have hr := B.returns
  have hts := atoms_spec (ws := Cond.code m_Ed_cut b_Ed_cut 2 (some .int) :: gw) B.pre
  have hown : s.vm.findClass R_Ed = some m.cls := findClass_of_methodNamed B.named
  have hlocks := B.notSynchronized
  subst hsz
  have hD := hD0.self (sz := s.heap.size)
  generalize hAe : va_A [(x, .inr (1, [.ref dg, .int (iI (((dl X : Nat) : Int))), .int (iI (pt)), .int (iI (zl)), .ref q])), (dg, .inl (cB, 1200, .inl g))] s.heap.size = A at hD hE ⊢
  have hA : ∀ q : Nat, s.heap.size ≤ q → A q := fun q h => by rw [← hAe]; exact Or.inr h
  have hS : va_S A s.heap s.heap [] := va_S.rf
  have hl := lv_entry ([.ref x, .int (iI (n))]) (n := 2) (Nat.le_of_ble_eq_true rfl)
  rw [lg_entry_eq]
  generalize (lg_sl ([.ref x, .int (iI (n))]) ++ List.replicate (2 - (lg_sl ([.ref x, .int (iI (n))])).length) Slot.unset).toArray = ls at hl ⊢
  have hl : lv_has ls 2 [(0, .ref x), (1, .int (iI (n)))] := hl
  refine lv_iload_n hx hb d_Ed_cut_0 rfl (lv_at hl 1 rfl) ?_
  refine lv_sipush (v := iI 2000) hx hb d_Ed_cut_1 (by decide +kernel) ?_
  refine c_fi (wc := []) (wr := [(x, .inr (1, [.ref dg, .int (iI (((dl X : Nat) : Int))), .int (iI (pt)), .int (iI (zl)), .ref q])), (dg, .inl (cB, 1200, .inl g))]) (va_runS (As := [.int (iI (n)), .int (iI (2000))]) (rest := []) ⟨hx, hb, hml, hown, hts⟩ (c_Ed_isBeyond l D cB cI cJ t5 ad (n) 2000 (by omega) (by omega) s.heap.size) (va_cwS 2 hts (gS tw_281 tw_282 tw_1 tw_283) rfl rfl rfl (by decide +kernel) ⟨Nat.le_of_ble_eq_true rfl, Nat.le_of_ble_eq_true rfl⟩) ⟨c_blind (eX_X t5 ad), fun U hU hW => c_pre (wc := []) (eX_X t5 ad) hE hK hP hD hS hA [] rfl (by decide) U hU hW⟩ rfl rfl hl.1 rfl (lv_room (Nat.le_of_ble_eq_true rfl)) d_Ed_cut_4 ⟨Nat.le_of_ble_eq_true rfl, Nat.le_of_ble_eq_true rfl⟩) hP hD hS hA [] [0, 1] rfl rfl (by decide) (by decide) (fun r u H locs hp hP hD hS => ?_)
  obtain ⟨rfl, rfl⟩ := hp
  have hP : va_P D ecl [(x, .inr (1, [.ref dg, .int (iI (((dl X : Nat) : Int))), .int (iI (pt)), .int (iI (zl)), .ref q])), (dg, .inl (cB, 1200, .inl g))] H := hP
  have hD : va_D A [(x, .inr (1, [.ref dg, .int (iI (((dl X : Nat) : Int))), .int (iI (pt)), .int (iI (zl)), .ref q])), (dg, .inl (cB, 1200, .inl g))] := hD
  obtain ⟨zb, hzb, hzb2⟩ : ∃ zb : Int, zb = (if n < -2000 ∨ 2000 < n then 1 else 0) ∧ ((zb = 1 ∧ (n < -2000 ∨ 2000 < n)) ∨ (zb = 0 ∧ ¬ (n < -2000 ∨ 2000 < n))) := ⟨_, rfl, by split <;> simp_all⟩
  refine ed_tz (y := zb) (hzb.symm) ?_
  refine ed_if_eq (tgt := 18) hx hb d_Ed_cut_7 rfl (by omega) (fun h_1 => ?_) (fun h_1 => ?_)
  · skip
    refine ed_pc (pc' := 18) rfl ?_
    refine lv_aload_n hx hb d_Ed_cut_18 rfl (lv_at hl 0 rfl) ?_
    refine lv_aload_n hx hb d_Ed_cut_19 rfl (lv_at hl 0 rfl) ?_
    refine va_get (D := D) (ci := 1) (v := .int (iI (pt))) (C := R_Ed) (T := T_Ed) (N := 5) hx hb hts (fun w h => List.mem_cons_of_mem _ (in_Ed w h)) hown hK hP 0 rfl rfl 2 (by decide) (hts _ (List.mem_cons_of_mem _ tw_42)) (fun _ h9 => h9) rfl d_Ed_cut_20 ?_
    refine ed_pc (pc' := 23) rfl ?_
    refine lv_iload_n hx hb d_Ed_cut_23 rfl (lv_at hl 1 rfl) ?_
    refine ed_iadd hx hb d_Ed_cut_24 ?_
    refine c_fv (wc := [(x, .inr (1, [.ref dg, .int (iI (((dl X : Nat) : Int))), .int (iI (pt)), .int (iI (zl)), .ref q])), (dg, .inl (cB, 1200, .inl g))]) (wr := []) (va_runV (C := "ExactDigits") (As := [.int (iI ((pt) + (n)))]) (rest := []) ⟨hx, hb, hml, hown, hts⟩ (c_Ed_keepFirst l D cB cI cJ t5 ad x dg q g pt zl (pt + n) X hnm (by omega) H.size) (cwV 1 hts (gV tw_328 tw_330 ts_14 tw_1 tw_331) rfl rfl rfl (by decide +kernel) ⟨Nat.le_of_ble_eq_true rfl, Nat.le_of_ble_eq_true rfl⟩) ⟨c_blind (eX_X t5 ad), va_recv (ci := 1) (q0 := 0) hK hP rfl rfl, fun U hU hW => c_pre (wc := [(x, .inr (1, [.ref dg, .int (iI (((dl X : Nat) : Int))), .int (iI (pt)), .int (iI (zl)), .ref q])), (dg, .inl (cB, 1200, .inl g))]) (eX_X t5 ad) hE hK hP hD hS hA [0, 1] rfl (by decide) U hU hW⟩ rfl rfl hl.1 rfl (lv_room (Nat.le_of_ble_eq_true rfl)) d_Ed_cut_25 ⟨Nat.le_of_ble_eq_true rfl, Nat.le_of_ble_eq_true rfl⟩) hP hD hS hA [0, 1] [] rfl rfl (by decide) (by decide) (fun u H locs hp hP hD hS => ?_)
    obtain ⟨hn2, rfl⟩ := hp
    have hP : va_P D ecl [(x, .inr (1, [.ref dg, .int (iI (((dl (rz (kfY X (pt + n))) : Nat) : Int))), .int (iI (if kfY X (pt + n) = 0 then 0 else pt)), .int (iI (0)), .ref q])), (dg, .inl (cB, 1200, .inl g))] H := hP
    have hD : va_D A [(x, .inr (1, [.ref dg, .int (iI (((dl (rz (kfY X (pt + n))) : Nat) : Int))), .int (iI (if kfY X (pt + n) = 0 then 0 else pt)), .int (iI (0)), .ref q])), (dg, .inl (cB, 1200, .inl g))] := hD
    refine lv_aload_n hx hb d_Ed_cut_28 rfl (lv_at hl 0 rfl) ?_
    refine va_get (D := D) (ci := 1) (v := .int (iI (((dl (rz (kfY X (pt + n))) : Nat) : Int)))) (C := R_Ed) (T := T_Ed) (N := 5) hx hb hts (fun w h => List.mem_cons_of_mem _ (in_Ed w h)) hown hK hP 0 rfl rfl 1 (by decide) (hts _ (List.mem_cons_of_mem _ tw_41)) (fun _ h9 => h9) rfl d_Ed_cut_29 ?_
    exact W.iret (v := (iI (((dl (rz (kfY X (pt + n))) : Nat) : Int)))) hx hb hr (fun t9 ht9 hW9 => ⟨⟨(iI (((dl (rz (kfY X (pt + n))) : Nat) : Int))), [(x, .inr (1, [.ref dg, .int (iI (((dl (rz (kfY X (pt + n))) : Nat) : Int))), .int (iI (if kfY X (pt + n) = 0 then 0 else pt)), .int (iI (0)), .ref q])), (dg, .inl (cB, 1200, .inl g))], rfl, ⟨rfl, hn2, rfl⟩, by rw [ht9]; exact hP, hD⟩, hS.F ht9⟩) hS.2.2 d_Ed_cut_32
  · exact absurd h_1 (by omega)
set_option maxHeartbeats 4000000 in
set_option maxRecDepth 100000 in
theorem c_Ed_cut_no (l : Launch) (hl0 : l.stackTraces = false) (D : va_G) (cB cI cJ : ClassId) (t5 : Nat) (ad : Nat → Nat) (x dg q : Nat) (g : Nat → Int32) (zc pt zl n : Int) (hk : iR n) (hm : n < -2000 ∨ 2000 < n) : c_T l m_Ed_cut (Cond.code m_Ed_cut b_Ed_cut 2 (some .int) :: gw) (rmx_ 6 90) (eX t5 ad) D ecl (tyS cB cI cJ) [.ref x, .int (iI (n))] [(x, .inr (1, [.ref dg, .int (iI (zc)), .int (iI (pt)), .int (iI (zl)), .ref q])), (dg, .inl (cB, 1200, .inl g))] xIA := by
  intro sz0
  refine vx_ofW (cc := b_Ed_cut) (maxL := 2) (ret := (some .int)) (by decide) rfl ?_
  intro p e s m args below meth c s₁ B hml htab hv
  obtain ⟨rfl, hsz, hP, hK, hD0, hE⟩ := hv
  have hx := B.exec
  have hb := B.bytes
  have hr := B.returns
  have hts := atoms_spec (ws := Cond.code m_Ed_cut b_Ed_cut 2 (some .int) :: gw) B.pre
  have hown : s.vm.findClass R_Ed = some m.cls := findClass_of_methodNamed B.named
  have hlocks := B.notSynchronized
  subst hsz
  have hD := hD0.self (sz := s.heap.size)
  generalize hAe : va_A [(x, .inr (1, [.ref dg, .int (iI (zc)), .int (iI (pt)), .int (iI (zl)), .ref q])), (dg, .inl (cB, 1200, .inl g))] s.heap.size = A at hD hE ⊢
  have hA : ∀ q : Nat, s.heap.size ≤ q → A q := fun q h => by rw [← hAe]; exact Or.inr h
  have hS : va_S A s.heap s.heap [] := va_S.rf
  have hl := lv_entry ([.ref x, .int (iI (n))]) (n := 2) (Nat.le_of_ble_eq_true rfl)
  rw [lg_entry_eq]
  generalize (lg_sl ([.ref x, .int (iI (n))]) ++ List.replicate (2 - (lg_sl ([.ref x, .int (iI (n))])).length) Slot.unset).toArray = ls at hl ⊢
  have hl : lv_has ls 2 [(0, .ref x), (1, .int (iI (n)))] := hl
  refine lv_iload_n hx hb d_Ed_cut_0 rfl (lv_at hl 1 rfl) ?_
  refine lv_sipush (v := iI 2000) hx hb d_Ed_cut_1 (by decide +kernel) ?_
  refine c_fi (wc := []) (wr := [(x, .inr (1, [.ref dg, .int (iI (zc)), .int (iI (pt)), .int (iI (zl)), .ref q])), (dg, .inl (cB, 1200, .inl g))]) (va_runS (As := [.int (iI (n)), .int (iI (2000))]) (rest := []) ⟨hx, hb, hml, hown, hts⟩ (c_Ed_isBeyond l D cB cI cJ t5 ad (n) 2000 (by omega) (by omega) s.heap.size) (va_cwS 2 hts (gS tw_281 tw_282 tw_1 tw_283) rfl rfl rfl (by decide +kernel) ⟨Nat.le_of_ble_eq_true rfl, Nat.le_of_ble_eq_true rfl⟩) ⟨c_blind (eX_X t5 ad), fun U hU hW => c_pre (wc := []) (eX_X t5 ad) hE hK hP hD hS hA [] rfl (by decide) U hU hW⟩ rfl rfl hl.1 rfl (lv_room (Nat.le_of_ble_eq_true rfl)) d_Ed_cut_4 ⟨Nat.le_of_ble_eq_true rfl, Nat.le_of_ble_eq_true rfl⟩) hP hD hS hA [] [0, 1] rfl rfl (by decide) (by decide) (fun r u H locs hp hP hD hS => ?_)
  obtain ⟨rfl, rfl⟩ := hp
  have hP : va_P D ecl [(x, .inr (1, [.ref dg, .int (iI (zc)), .int (iI (pt)), .int (iI (zl)), .ref q])), (dg, .inl (cB, 1200, .inl g))] H := hP
  have hD : va_D A [(x, .inr (1, [.ref dg, .int (iI (zc)), .int (iI (pt)), .int (iI (zl)), .ref q])), (dg, .inl (cB, 1200, .inl g))] := hD
  obtain ⟨zb, hzb, hzb2⟩ : ∃ zb : Int, zb = (if n < -2000 ∨ 2000 < n then 1 else 0) ∧ ((zb = 1 ∧ (n < -2000 ∨ 2000 < n)) ∨ (zb = 0 ∧ ¬ (n < -2000 ∨ 2000 < n))) := ⟨_, rfl, by split <;> simp_all⟩
  refine ed_tz (y := zb) (hzb.symm) ?_
  refine ed_if_eq (tgt := 18) hx hb d_Ed_cut_7 rfl (by omega) (fun h_1 => ?_) (fun h_1 => ?_)
  · exact absurd h_1 (by omega)
  · skip
    refine ed_pc (pc' := 10) rfl ?_
    exact vx_throw0 (own := "ExactDigits") (cls := xIA) (names := xNm) (rest := []) hx hb hl0 hown (by decide +kernel) (by decide +kernel) (hts _ (List.mem_cons_of_mem _ tw_284)) (hts _ (List.mem_cons_of_mem _ tw_15)) (vx_hat (fun w h => hts w (List.mem_cons_of_mem _ (ta_IA w h))) tb_IA (eW_IA hE.2.2.2.2.2.2.2.2.2.2.2)) tg_IA hE.2.2.2.2.2.2.2.2.2.1 hE.2.2.2.2.2.2.2.2.2.2.1 hS (hl.1.trans hml.symm) d_Ed_cut_10 d_Ed_cut_13 d_Ed_cut_14 d_Ed_cut_17 (fun x h => (htab x h).elim) (Nat.le_of_ble_eq_true rfl) (Nat.le_of_ble_eq_true rfl) (Nat.le_of_ble_eq_true rfl) (Nat.le_of_ble_eq_true rfl) hlocks (fun t9 hv9 hz9 hk9 => c_xc hP hD hS hz9 hk9) hS.2.2 (Nat.le_of_ble_eq_true rfl) (Nat.le_of_ble_eq_true rfl)
set_option maxHeartbeats 4000000 in
set_option maxRecDepth 100000 in
theorem c_Ed_round_no (l : Launch) (hl0 : l.stackTraces = false) (D : va_G) (cB cI cJ : ClassId) (t5 : Nat) (ad : Nat → Nat) (x dg q : Nat) (g : Nat → Int32) (zc pt zl n : Int) (hk : iR n) (hm : n < -2000 ∨ 2000 < n) : c_T l m_Ed_round (Cond.code m_Ed_round b_Ed_round 3 (some .int) :: gw) (rmx_ 6 90) (eX t5 ad) D ecl (tyS cB cI cJ) [.ref x, .int (iI (n))] [(x, .inr (1, [.ref dg, .int (iI (zc)), .int (iI (pt)), .int (iI (zl)), .ref q])), (dg, .inl (cB, 1200, .inl g))] xIA := by
  intro sz0
  refine vx_ofW (cc := b_Ed_round) (maxL := 3) (ret := (some .int)) (by decide) rfl ?_
  intro p e s m args below meth c s₁ B hml htab hv
  obtain ⟨rfl, hsz, hP, hK, hD0, hE⟩ := hv
  have hx := B.exec
  have hb := B.bytes
  have hr := B.returns
  have hts := atoms_spec (ws := Cond.code m_Ed_round b_Ed_round 3 (some .int) :: gw) B.pre
  have hown : s.vm.findClass R_Ed = some m.cls := findClass_of_methodNamed B.named
  have hlocks := B.notSynchronized
  subst hsz
  have hD := hD0.self (sz := s.heap.size)
  generalize hAe : va_A [(x, .inr (1, [.ref dg, .int (iI (zc)), .int (iI (pt)), .int (iI (zl)), .ref q])), (dg, .inl (cB, 1200, .inl g))] s.heap.size = A at hD hE ⊢
  have hA : ∀ q : Nat, s.heap.size ≤ q → A q := fun q h => by rw [← hAe]; exact Or.inr h
  have hS : va_S A s.heap s.heap [] := va_S.rf
  have hl := lv_entry ([.ref x, .int (iI (n))]) (n := 3) (Nat.le_of_ble_eq_true rfl)
  rw [lg_entry_eq]
  generalize (lg_sl ([.ref x, .int (iI (n))]) ++ List.replicate (3 - (lg_sl ([.ref x, .int (iI (n))])).length) Slot.unset).toArray = ls at hl ⊢
  have hl : lv_has ls 3 [(0, .ref x), (1, .int (iI (n)))] := hl
  refine lv_iload_n hx hb d_Ed_round_0 rfl (lv_at hl 1 rfl) ?_
  refine lv_sipush (v := iI 2000) hx hb d_Ed_round_1 (by decide +kernel) ?_
  refine c_fi (wc := []) (wr := [(x, .inr (1, [.ref dg, .int (iI (zc)), .int (iI (pt)), .int (iI (zl)), .ref q])), (dg, .inl (cB, 1200, .inl g))]) (va_runS (As := [.int (iI (n)), .int (iI (2000))]) (rest := []) ⟨hx, hb, hml, hown, hts⟩ (c_Ed_isBeyond l D cB cI cJ t5 ad (n) 2000 (by omega) (by omega) s.heap.size) (va_cwS 2 hts (gS tw_281 tw_282 tw_1 tw_283) rfl rfl rfl (by decide +kernel) ⟨Nat.le_of_ble_eq_true rfl, Nat.le_of_ble_eq_true rfl⟩) ⟨c_blind (eX_X t5 ad), fun U hU hW => c_pre (wc := []) (eX_X t5 ad) hE hK hP hD hS hA [] rfl (by decide) U hU hW⟩ rfl rfl hl.1 rfl (lv_room (Nat.le_of_ble_eq_true rfl)) d_Ed_round_4 ⟨Nat.le_of_ble_eq_true rfl, Nat.le_of_ble_eq_true rfl⟩) hP hD hS hA [] [0, 1] rfl rfl (by decide) (by decide) (fun r u H locs hp hP hD hS => ?_)
  obtain ⟨rfl, rfl⟩ := hp
  have hP : va_P D ecl [(x, .inr (1, [.ref dg, .int (iI (zc)), .int (iI (pt)), .int (iI (zl)), .ref q])), (dg, .inl (cB, 1200, .inl g))] H := hP
  have hD : va_D A [(x, .inr (1, [.ref dg, .int (iI (zc)), .int (iI (pt)), .int (iI (zl)), .ref q])), (dg, .inl (cB, 1200, .inl g))] := hD
  obtain ⟨zb, hzb, hzb2⟩ : ∃ zb : Int, zb = (if n < -2000 ∨ 2000 < n then 1 else 0) ∧ ((zb = 1 ∧ (n < -2000 ∨ 2000 < n)) ∨ (zb = 0 ∧ ¬ (n < -2000 ∨ 2000 < n))) := ⟨_, rfl, by split <;> simp_all⟩
  refine ed_tz (y := zb) (hzb.symm) ?_
  refine ed_if_eq (tgt := 18) hx hb d_Ed_round_7 rfl (by omega) (fun h_1 => ?_) (fun h_1 => ?_)
  · exact absurd h_1 (by omega)
  · skip
    refine ed_pc (pc' := 10) rfl ?_
    exact vx_throw0 (own := "ExactDigits") (cls := xIA) (names := xNm) (rest := []) hx hb hl0 hown (by decide +kernel) (by decide +kernel) (hts _ (List.mem_cons_of_mem _ tw_284)) (hts _ (List.mem_cons_of_mem _ tw_15)) (vx_hat (fun w h => hts w (List.mem_cons_of_mem _ (ta_IA w h))) tb_IA (eW_IA hE.2.2.2.2.2.2.2.2.2.2.2)) tg_IA hE.2.2.2.2.2.2.2.2.2.1 hE.2.2.2.2.2.2.2.2.2.2.1 hS (hl.1.trans hml.symm) d_Ed_round_10 d_Ed_round_13 d_Ed_round_14 d_Ed_round_17 (fun x h => (htab x h).elim) (Nat.le_of_ble_eq_true rfl) (Nat.le_of_ble_eq_true rfl) (Nat.le_of_ble_eq_true rfl) (Nat.le_of_ble_eq_true rfl) hlocks (fun t9 hv9 hz9 hk9 => c_xc hP hD hS hz9 hk9) hS.2.2 (Nat.le_of_ble_eq_true rfl) (Nat.le_of_ble_eq_true rfl)
set_option maxHeartbeats 4000000 in
set_option maxRecDepth 100000 in
theorem c_Ed_round (l : Launch) (D : va_G) (cB cI cJ : ClassId) (t5 : Nat) (ad : Nat → Nat) (x dg q : Nat) (g : Nat → Int32) (pt zl n : Int) (X : Nat) (hnm : nm_ok g X) (hpt : -100000000 ≤ pt ∧ pt ≤ 100000000) (hk : -2000 ≤ n ∧ n ≤ 2000) (hno : pt + n < 0 ∨ ((dl X : Nat) : Int) ≤ pt + n ∨ X / 10 ^ (dl X - 1 - (pt + n).toNat) % 10 < 5) : c_I l m_Ed_round (Cond.code m_Ed_round b_Ed_round 3 (some .int) :: gw) (rm_ 6 90) (eX t5 ad) D ecl (tyS cB cI cJ) [.ref x, .int (iI (n))] [(x, .inr (1, [.ref dg, .int (iI (((dl X : Nat) : Int))), .int (iI (pt)), .int (iI (zl)), .ref q])), (dg, .inl (cB, 1200, .inl g))] (fun r u => r = iI ((dl (rz (kfY X (pt + n))) : Nat) : Int) ∧ nm_ok g (rz (kfY X (pt + n))) ∧ u = [(x, .inr (1, [.ref dg, .int (iI (((dl (rz (kfY X (pt + n))) : Nat) : Int))), .int (iI (if kfY X (pt + n) = 0 then 0 else pt)), .int (iI (0)), .ref q])), (dg, .inl (cB, 1200, .inl g))]) 0 0 := by
  intro sz0
  refine Met.ofW (cc := b_Ed_round) (maxL := 3) (ret := (some .int)) (by decide) rfl ?_
  intro p e s m args below meth c s₁ B hml hv
  obtain ⟨rfl, hsz, hP, hK, hD0, hE⟩ := hv
  have hx := B.exec
  have hb := B.bytes
  have hr := B.returns
  have hts := atoms_spec (ws := Cond.code m_Ed_round b_Ed_round 3 (some .int) :: gw) B.pre
  have hown : s.vm.findClass R_Ed = some m.cls := findClass_of_methodNamed B.named
  have hlocks := B.notSynchronized
  subst hsz
  have hD := hD0.self (sz := s.heap.size)
  generalize hAe : va_A [(x, .inr (1, [.ref dg, .int (iI (((dl X : Nat) : Int))), .int (iI (pt)), .int (iI (zl)), .ref q])), (dg, .inl (cB, 1200, .inl g))] s.heap.size = A at hD hE ⊢
  have hA : ∀ q : Nat, s.heap.size ≤ q → A q := fun q h => by rw [← hAe]; exact Or.inr h
  have hS : va_S A s.heap s.heap [] := va_S.rf
  have hl := lv_entry ([.ref x, .int (iI (n))]) (n := 3) (Nat.le_of_ble_eq_true rfl)
  rw [lg_entry_eq]
  generalize (lg_sl ([.ref x, .int (iI (n))]) ++ List.replicate (3 - (lg_sl ([.ref x, .int (iI (n))])).length) Slot.unset).toArray = ls at hl ⊢
  have hl : lv_has ls 3 [(0, .ref x), (1, .int (iI (n)))] := hl
  have hX12 := hnm.1
  refine lv_iload_n hx hb d_Ed_round_0 rfl (lv_at hl 1 rfl) ?_
  refine lv_sipush (v := iI 2000) hx hb d_Ed_round_1 (by decide +kernel) ?_
  refine c_fi (wc := []) (wr := [(x, .inr (1, [.ref dg, .int (iI (((dl X : Nat) : Int))), .int (iI (pt)), .int (iI (zl)), .ref q])), (dg, .inl (cB, 1200, .inl g))]) (va_runS (As := [.int (iI (n)), .int (iI (2000))]) (rest := []) ⟨hx, hb, hml, hown, hts⟩ (c_Ed_isBeyond l D cB cI cJ t5 ad (n) 2000 (by omega) (by omega) s.heap.size) (va_cwS 2 hts (gS tw_281 tw_282 tw_1 tw_283) rfl rfl rfl (by decide +kernel) ⟨Nat.le_of_ble_eq_true rfl, Nat.le_of_ble_eq_true rfl⟩) ⟨c_blind (eX_X t5 ad), fun U hU hW => c_pre (wc := []) (eX_X t5 ad) hE hK hP hD hS hA [] rfl (by decide) U hU hW⟩ rfl rfl hl.1 rfl (lv_room (Nat.le_of_ble_eq_true rfl)) d_Ed_round_4 ⟨Nat.le_of_ble_eq_true rfl, Nat.le_of_ble_eq_true rfl⟩) hP hD hS hA [] [0, 1] rfl rfl (by decide) (by decide) (fun r u H locs hp hP hD hS => ?_)
  obtain ⟨rfl, rfl⟩ := hp
  have hP : va_P D ecl [(x, .inr (1, [.ref dg, .int (iI (((dl X : Nat) : Int))), .int (iI (pt)), .int (iI (zl)), .ref q])), (dg, .inl (cB, 1200, .inl g))] H := hP
  have hD : va_D A [(x, .inr (1, [.ref dg, .int (iI (((dl X : Nat) : Int))), .int (iI (pt)), .int (iI (zl)), .ref q])), (dg, .inl (cB, 1200, .inl g))] := hD
  obtain ⟨zb, hzb, hzb2⟩ : ∃ zb : Int, zb = (if n < -2000 ∨ 2000 < n then 1 else 0) ∧ ((zb = 1 ∧ (n < -2000 ∨ 2000 < n)) ∨ (zb = 0 ∧ ¬ (n < -2000 ∨ 2000 < n))) := ⟨_, rfl, by split <;> simp_all⟩
  refine ed_tz (y := zb) (hzb.symm) ?_
  refine ed_if_eq (tgt := 18) hx hb d_Ed_round_7 rfl (by omega) (fun h_1 => ?_) (fun h_1 => ?_)
  · skip
    refine ed_pc (pc' := 18) rfl ?_
    refine lv_aload_n hx hb d_Ed_round_18 rfl (lv_at hl 0 rfl) ?_
    refine va_get (D := D) (ci := 1) (v := .int (iI (pt))) (C := R_Ed) (T := T_Ed) (N := 5) hx hb hts (fun w h => List.mem_cons_of_mem _ (in_Ed w h)) hown hK hP 0 rfl rfl 2 (by decide) (hts _ (List.mem_cons_of_mem _ tw_42)) (fun _ h9 => h9) rfl d_Ed_round_19 ?_
    refine lv_iload_n hx hb d_Ed_round_22 rfl (lv_at hl 1 rfl) ?_
    refine ed_pc (pc' := 23) rfl ?_
    refine ed_iadd hx hb d_Ed_round_23 ?_
    refine lv_istore_n hx hb d_Ed_round_24 rfl hl (by decide) rfl (fun ls hl => ?_)
    have hl : lv_has ls 3 [(2, .int (iI ((pt) + (n)))), (0, .ref x), (1, .int (iI (n)))] := hl
    refine lv_iload_n hx hb d_Ed_round_25 rfl (lv_at hl 0 rfl) ?_
    refine ed_if_lt (tgt := 55) hx hb d_Ed_round_26 rfl (by omega) (fun h_2 => ?_) (fun h_2 => ?_)
    · skip
      refine ed_pc (pc' := 55) rfl ?_
      refine lv_aload_n hx hb d_Ed_round_55 rfl (lv_at hl 1 rfl) ?_
      refine lv_iload_n hx hb d_Ed_round_56 rfl (lv_at hl 0 rfl) ?_
      refine c_fv (wc := [(x, .inr (1, [.ref dg, .int (iI (((dl X : Nat) : Int))), .int (iI (pt)), .int (iI (zl)), .ref q])), (dg, .inl (cB, 1200, .inl g))]) (wr := []) (va_runV (C := "ExactDigits") (As := [.int (iI ((pt) + (n)))]) (rest := []) ⟨hx, hb, hml, hown, hts⟩ (c_Ed_keepFirst l D cB cI cJ t5 ad x dg q g pt zl (pt + n) X hnm (by omega) H.size) (cwV 1 hts (gV tw_328 tw_330 ts_14 tw_1 tw_331) rfl rfl rfl (by decide +kernel) ⟨Nat.le_of_ble_eq_true rfl, Nat.le_of_ble_eq_true rfl⟩) ⟨c_blind (eX_X t5 ad), va_recv (ci := 1) (q0 := 0) hK hP rfl rfl, fun U hU hW => c_pre (wc := [(x, .inr (1, [.ref dg, .int (iI (((dl X : Nat) : Int))), .int (iI (pt)), .int (iI (zl)), .ref q])), (dg, .inl (cB, 1200, .inl g))]) (eX_X t5 ad) hE hK hP hD hS hA [0, 1] rfl (by decide) U hU hW⟩ rfl rfl hl.1 rfl (lv_room (Nat.le_of_ble_eq_true rfl)) d_Ed_round_57 ⟨Nat.le_of_ble_eq_true rfl, Nat.le_of_ble_eq_true rfl⟩) hP hD hS hA [0, 1] [] rfl rfl (by decide) (by decide) (fun u H locs hp hP hD hS => ?_)
      obtain ⟨hn2, rfl⟩ := hp
      have hP : va_P D ecl [(x, .inr (1, [.ref dg, .int (iI (((dl (rz (kfY X (pt + n))) : Nat) : Int))), .int (iI (if kfY X (pt + n) = 0 then 0 else pt)), .int (iI (0)), .ref q])), (dg, .inl (cB, 1200, .inl g))] H := hP
      have hD : va_D A [(x, .inr (1, [.ref dg, .int (iI (((dl (rz (kfY X (pt + n))) : Nat) : Int))), .int (iI (if kfY X (pt + n) = 0 then 0 else pt)), .int (iI (0)), .ref q])), (dg, .inl (cB, 1200, .inl g))] := hD
      refine lv_aload_n hx hb d_Ed_round_60 rfl (lv_at hl 1 rfl) ?_
      refine ed_pc (pc' := 61) rfl ?_
      refine va_get (D := D) (ci := 1) (v := .int (iI (((dl (rz (kfY X (pt + n))) : Nat) : Int)))) (C := R_Ed) (T := T_Ed) (N := 5) hx hb hts (fun w h => List.mem_cons_of_mem _ (in_Ed w h)) hown hK hP 0 rfl rfl 1 (by decide) (hts _ (List.mem_cons_of_mem _ tw_41)) (fun _ h9 => h9) rfl d_Ed_round_61 ?_
      exact W.iret (v := (iI (((dl (rz (kfY X (pt + n))) : Nat) : Int)))) hx hb hr (fun t9 ht9 hW9 => ⟨⟨(iI (((dl (rz (kfY X (pt + n))) : Nat) : Int))), [(x, .inr (1, [.ref dg, .int (iI (((dl (rz (kfY X (pt + n))) : Nat) : Int))), .int (iI (if kfY X (pt + n) = 0 then 0 else pt)), .int (iI (0)), .ref q])), (dg, .inl (cB, 1200, .inl g))], rfl, ⟨rfl, hn2, rfl⟩, by rw [ht9]; exact hP, hD⟩, hS.F ht9⟩) hS.2.2 d_Ed_round_64
    · skip
      refine ed_pc (pc' := 29) rfl ?_
      refine lv_iload_n hx hb d_Ed_round_29 rfl (lv_at hl 0 rfl) ?_
      refine lv_aload_n hx hb d_Ed_round_30 rfl (lv_at hl 1 rfl) ?_
      refine va_get (D := D) (ci := 1) (v := .int (iI (((dl X : Nat) : Int)))) (C := R_Ed) (T := T_Ed) (N := 5) hx hb hts (fun w h => List.mem_cons_of_mem _ (in_Ed w h)) hown hK hP 0 rfl rfl 1 (by decide) (hts _ (List.mem_cons_of_mem _ tw_41)) (fun _ h9 => h9) rfl d_Ed_round_31 ?_
      refine ed_icmp_ge (tgt := 55) hx hb d_Ed_round_34 rfl (by omega) (by omega) (fun h_3 => ?_) (fun h_3 => ?_)
      · skip
        refine ed_pc (pc' := 55) rfl ?_
        refine ed_pc (pc' := 55) rfl ?_
        refine lv_aload_n hx hb d_Ed_round_55 rfl (lv_at hl 1 rfl) ?_
        refine lv_iload_n hx hb d_Ed_round_56 rfl (lv_at hl 0 rfl) ?_
        refine c_fv (wc := [(x, .inr (1, [.ref dg, .int (iI (((dl X : Nat) : Int))), .int (iI (pt)), .int (iI (zl)), .ref q])), (dg, .inl (cB, 1200, .inl g))]) (wr := []) (va_runV (C := "ExactDigits") (As := [.int (iI ((pt) + (n)))]) (rest := []) ⟨hx, hb, hml, hown, hts⟩ (c_Ed_keepFirst l D cB cI cJ t5 ad x dg q g pt zl (pt + n) X hnm (by omega) H.size) (cwV 1 hts (gV tw_328 tw_330 ts_14 tw_1 tw_331) rfl rfl rfl (by decide +kernel) ⟨Nat.le_of_ble_eq_true rfl, Nat.le_of_ble_eq_true rfl⟩) ⟨c_blind (eX_X t5 ad), va_recv (ci := 1) (q0 := 0) hK hP rfl rfl, fun U hU hW => c_pre (wc := [(x, .inr (1, [.ref dg, .int (iI (((dl X : Nat) : Int))), .int (iI (pt)), .int (iI (zl)), .ref q])), (dg, .inl (cB, 1200, .inl g))]) (eX_X t5 ad) hE hK hP hD hS hA [0, 1] rfl (by decide) U hU hW⟩ rfl rfl hl.1 rfl (lv_room (Nat.le_of_ble_eq_true rfl)) d_Ed_round_57 ⟨Nat.le_of_ble_eq_true rfl, Nat.le_of_ble_eq_true rfl⟩) hP hD hS hA [0, 1] [] rfl rfl (by decide) (by decide) (fun u H locs hp hP hD hS => ?_)
        obtain ⟨hn2, rfl⟩ := hp
        have hP : va_P D ecl [(x, .inr (1, [.ref dg, .int (iI (((dl (rz (kfY X (pt + n))) : Nat) : Int))), .int (iI (if kfY X (pt + n) = 0 then 0 else pt)), .int (iI (0)), .ref q])), (dg, .inl (cB, 1200, .inl g))] H := hP
        have hD : va_D A [(x, .inr (1, [.ref dg, .int (iI (((dl (rz (kfY X (pt + n))) : Nat) : Int))), .int (iI (if kfY X (pt + n) = 0 then 0 else pt)), .int (iI (0)), .ref q])), (dg, .inl (cB, 1200, .inl g))] := hD
        refine lv_aload_n hx hb d_Ed_round_60 rfl (lv_at hl 1 rfl) ?_
        refine va_get (D := D) (ci := 1) (v := .int (iI (((dl (rz (kfY X (pt + n))) : Nat) : Int)))) (C := R_Ed) (T := T_Ed) (N := 5) hx hb hts (fun w h => List.mem_cons_of_mem _ (in_Ed w h)) hown hK hP 0 rfl rfl 1 (by decide) (hts _ (List.mem_cons_of_mem _ tw_41)) (fun _ h9 => h9) rfl d_Ed_round_61 ?_
        exact W.iret (v := (iI (((dl (rz (kfY X (pt + n))) : Nat) : Int)))) hx hb hr (fun t9 ht9 hW9 => ⟨⟨(iI (((dl (rz (kfY X (pt + n))) : Nat) : Int))), [(x, .inr (1, [.ref dg, .int (iI (((dl (rz (kfY X (pt + n))) : Nat) : Int))), .int (iI (if kfY X (pt + n) = 0 then 0 else pt)), .int (iI (0)), .ref q])), (dg, .inl (cB, 1200, .inl g))], rfl, ⟨rfl, hn2, rfl⟩, by rw [ht9]; exact hP, hD⟩, hS.F ht9⟩) hS.2.2 d_Ed_round_64
      · skip
        refine ed_pc (pc' := 37) rfl ?_
        obtain ⟨d, hd0⟩ : ∃ d : Nat, d = X / 10 ^ (dl X - 1 - (pt + n).toNat) % 10 := ⟨_, rfl⟩
        have hd9 : d < 10 := by rw [hd0]; exact dg_lt _ _
        rw [← hd0] at hno
        refine ed_pc (pc' := 37) rfl ?_
        refine lv_aload_n hx hb d_Ed_round_37 rfl (lv_at hl 1 rfl) ?_
        refine va_get (D := D) (ci := 1) (v := .ref dg) (C := R_Ed) (T := T_Ed) (N := 5) hx hb hts (fun w h => List.mem_cons_of_mem _ (in_Ed w h)) hown hK hP 0 rfl rfl 0 (by decide) (hts _ (List.mem_cons_of_mem _ tw_40)) (fun _ h9 => h9) rfl d_Ed_round_38 ?_
        refine lv_iload_n hx hb d_Ed_round_41 rfl (lv_at hl 0 rfl) ?_
        refine ed_bald (y := (d : Int)) hx hb hK hP 1 0 rfl rfl ((pt + n).toNat) (by omega) (by omega) (by decide) (by rw [hd0]; exact hnm.2.2 _ (by omega)) d_Ed_round_42 ?_
        refine lv_iconst (v := iI 5) hx hb d_Ed_round_43 rfl ?_
        refine ed_icmp_lt (tgt := 55) hx hb d_Ed_round_44 rfl (by omega) (by omega) (fun h_4 => ?_) (fun h_4 => ?_)
        · skip
          refine ed_pc (pc' := 55) rfl ?_
          refine lv_aload_n hx hb d_Ed_round_55 rfl (lv_at hl 1 rfl) ?_
          refine lv_iload_n hx hb d_Ed_round_56 rfl (lv_at hl 0 rfl) ?_
          refine ed_pc (pc' := 57) rfl ?_
          refine c_fv (wc := [(x, .inr (1, [.ref dg, .int (iI (((dl X : Nat) : Int))), .int (iI (pt)), .int (iI (zl)), .ref q])), (dg, .inl (cB, 1200, .inl g))]) (wr := []) (va_runV (C := "ExactDigits") (As := [.int (iI ((pt) + (n)))]) (rest := []) ⟨hx, hb, hml, hown, hts⟩ (c_Ed_keepFirst l D cB cI cJ t5 ad x dg q g pt zl (pt + n) X hnm (by omega) H.size) (cwV 1 hts (gV tw_328 tw_330 ts_14 tw_1 tw_331) rfl rfl rfl (by decide +kernel) ⟨Nat.le_of_ble_eq_true rfl, Nat.le_of_ble_eq_true rfl⟩) ⟨c_blind (eX_X t5 ad), va_recv (ci := 1) (q0 := 0) hK hP rfl rfl, fun U hU hW => c_pre (wc := [(x, .inr (1, [.ref dg, .int (iI (((dl X : Nat) : Int))), .int (iI (pt)), .int (iI (zl)), .ref q])), (dg, .inl (cB, 1200, .inl g))]) (eX_X t5 ad) hE hK hP hD hS hA [0, 1] rfl (by decide) U hU hW⟩ rfl rfl hl.1 rfl (lv_room (Nat.le_of_ble_eq_true rfl)) d_Ed_round_57 ⟨Nat.le_of_ble_eq_true rfl, Nat.le_of_ble_eq_true rfl⟩) hP hD hS hA [0, 1] [] rfl rfl (by decide) (by decide) (fun u H locs hp hP hD hS => ?_)
          obtain ⟨hn2, rfl⟩ := hp
          have hP : va_P D ecl [(x, .inr (1, [.ref dg, .int (iI (((dl (rz (kfY X (pt + n))) : Nat) : Int))), .int (iI (if kfY X (pt + n) = 0 then 0 else pt)), .int (iI (0)), .ref q])), (dg, .inl (cB, 1200, .inl g))] H := hP
          have hD : va_D A [(x, .inr (1, [.ref dg, .int (iI (((dl (rz (kfY X (pt + n))) : Nat) : Int))), .int (iI (if kfY X (pt + n) = 0 then 0 else pt)), .int (iI (0)), .ref q])), (dg, .inl (cB, 1200, .inl g))] := hD
          refine lv_aload_n hx hb d_Ed_round_60 rfl (lv_at hl 1 rfl) ?_
          refine va_get (D := D) (ci := 1) (v := .int (iI (((dl (rz (kfY X (pt + n))) : Nat) : Int)))) (C := R_Ed) (T := T_Ed) (N := 5) hx hb hts (fun w h => List.mem_cons_of_mem _ (in_Ed w h)) hown hK hP 0 rfl rfl 1 (by decide) (hts _ (List.mem_cons_of_mem _ tw_41)) (fun _ h9 => h9) rfl d_Ed_round_61 ?_
          exact W.iret (v := (iI (((dl (rz (kfY X (pt + n))) : Nat) : Int)))) hx hb hr (fun t9 ht9 hW9 => ⟨⟨(iI (((dl (rz (kfY X (pt + n))) : Nat) : Int))), [(x, .inr (1, [.ref dg, .int (iI (((dl (rz (kfY X (pt + n))) : Nat) : Int))), .int (iI (if kfY X (pt + n) = 0 then 0 else pt)), .int (iI (0)), .ref q])), (dg, .inl (cB, 1200, .inl g))], rfl, ⟨rfl, hn2, rfl⟩, by rw [ht9]; exact hP, hD⟩, hS.F ht9⟩) hS.2.2 d_Ed_round_64
        · exact absurd h_4 (by omega)
  · exact absurd h_1 (by omega)
set_option maxHeartbeats 4000000 in
set_option maxRecDepth 100000 in
theorem c_Ed_round_up (l : Launch) (D : va_G) (cB cI cJ : ClassId) (t5 : Nat) (ad : Nat → Nat) (x dg q : Nat) (g : Nat → Int32) (pt zl n : Int) (X : Nat) (hnm : nm_ok g X) (hpt : -100000000 ≤ pt ∧ pt ≤ 100000000) (hk : -2000 ≤ n ∧ n ≤ 2000) (j : Nat) (hj : pt + n = (j : Int)) (hjd : j < dl X) (h5 : 5 ≤ X / 10 ^ (dl X - 1 - j) % 10) : c_I l m_Ed_round (Cond.code m_Ed_round b_Ed_round 3 (some .int) :: gw) (rm_ 6 90) (eX t5 ad) D ecl (tyS cB cI cJ) [.ref x, .int (iI (n))] [(x, .inr (1, [.ref dg, .int (iI (((dl X : Nat) : Int))), .int (iI (pt)), .int (iI (zl)), .ref q])), (dg, .inl (cB, 1200, .inl g))] (fun r u => r = iI ((dl (rz (X / 10 ^ (dl X - j) + 1)) : Nat) : Int) ∧ ∃ g' : Nat → Int32, nm_ok g' (rz (X / 10 ^ (dl X - j) + 1)) ∧ u = [(x, .inr (1, [.ref dg, .int (iI (((dl (rz (X / 10 ^ (dl X - j) + 1)) : Nat) : Int))), .int (iI (if (X / 10 ^ (dl X - j) + 1) = 10 ^ j then pt + 1 else pt)), .int (iI (0)), .ref q])), (dg, .inl (cB, 1200, .inl g'))]) 0 0 := by
  intro sz0
  refine Met.ofW (cc := b_Ed_round) (maxL := 3) (ret := (some .int)) (by decide) rfl ?_
  intro p e s m args below meth c s₁ B hml hv
  obtain ⟨rfl, hsz, hP, hK, hD0, hE⟩ := hv
  have hx := B.exec
  have hb := B.bytes
  have hr := B.returns
  have hts := atoms_spec (ws := Cond.code m_Ed_round b_Ed_round 3 (some .int) :: gw) B.pre
  have hown : s.vm.findClass R_Ed = some m.cls := findClass_of_methodNamed B.named
  have hlocks := B.notSynchronized
  subst hsz
  have hD := hD0.self (sz := s.heap.size)
  generalize hAe : va_A [(x, .inr (1, [.ref dg, .int (iI (((dl X : Nat) : Int))), .int (iI (pt)), .int (iI (zl)), .ref q])), (dg, .inl (cB, 1200, .inl g))] s.heap.size = A at hD hE ⊢
  have hA : ∀ q : Nat, s.heap.size ≤ q → A q := fun q h => by rw [← hAe]; exact Or.inr h
  have hS : va_S A s.heap s.heap [] := va_S.rf
  have hl := lv_entry ([.ref x, .int (iI (n))]) (n := 3) (Nat.le_of_ble_eq_true rfl)
  rw [lg_entry_eq]
  generalize (lg_sl ([.ref x, .int (iI (n))]) ++ List.replicate (3 - (lg_sl ([.ref x, .int (iI (n))])).length) Slot.unset).toArray = ls at hl ⊢
  have hl : lv_has ls 3 [(0, .ref x), (1, .int (iI (n)))] := hl
  have hX12 := hnm.1
  refine lv_iload_n hx hb d_Ed_round_0 rfl (lv_at hl 1 rfl) ?_
  refine lv_sipush (v := iI 2000) hx hb d_Ed_round_1 (by decide +kernel) ?_
  refine c_fi (wc := []) (wr := [(x, .inr (1, [.ref dg, .int (iI (((dl X : Nat) : Int))), .int (iI (pt)), .int (iI (zl)), .ref q])), (dg, .inl (cB, 1200, .inl g))]) (va_runS (As := [.int (iI (n)), .int (iI (2000))]) (rest := []) ⟨hx, hb, hml, hown, hts⟩ (c_Ed_isBeyond l D cB cI cJ t5 ad (n) 2000 (by omega) (by omega) s.heap.size) (va_cwS 2 hts (gS tw_281 tw_282 tw_1 tw_283) rfl rfl rfl (by decide +kernel) ⟨Nat.le_of_ble_eq_true rfl, Nat.le_of_ble_eq_true rfl⟩) ⟨c_blind (eX_X t5 ad), fun U hU hW => c_pre (wc := []) (eX_X t5 ad) hE hK hP hD hS hA [] rfl (by decide) U hU hW⟩ rfl rfl hl.1 rfl (lv_room (Nat.le_of_ble_eq_true rfl)) d_Ed_round_4 ⟨Nat.le_of_ble_eq_true rfl, Nat.le_of_ble_eq_true rfl⟩) hP hD hS hA [] [0, 1] rfl rfl (by decide) (by decide) (fun r u H locs hp hP hD hS => ?_)
  obtain ⟨rfl, rfl⟩ := hp
  have hP : va_P D ecl [(x, .inr (1, [.ref dg, .int (iI (((dl X : Nat) : Int))), .int (iI (pt)), .int (iI (zl)), .ref q])), (dg, .inl (cB, 1200, .inl g))] H := hP
  have hD : va_D A [(x, .inr (1, [.ref dg, .int (iI (((dl X : Nat) : Int))), .int (iI (pt)), .int (iI (zl)), .ref q])), (dg, .inl (cB, 1200, .inl g))] := hD
  obtain ⟨zb, hzb, hzb2⟩ : ∃ zb : Int, zb = (if n < -2000 ∨ 2000 < n then 1 else 0) ∧ ((zb = 1 ∧ (n < -2000 ∨ 2000 < n)) ∨ (zb = 0 ∧ ¬ (n < -2000 ∨ 2000 < n))) := ⟨_, rfl, by split <;> simp_all⟩
  refine ed_tz (y := zb) (hzb.symm) ?_
  refine ed_if_eq (tgt := 18) hx hb d_Ed_round_7 rfl (by omega) (fun h_1 => ?_) (fun h_1 => ?_)
  · skip
    refine ed_pc (pc' := 18) rfl ?_
    refine lv_aload_n hx hb d_Ed_round_18 rfl (lv_at hl 0 rfl) ?_
    refine va_get (D := D) (ci := 1) (v := .int (iI (pt))) (C := R_Ed) (T := T_Ed) (N := 5) hx hb hts (fun w h => List.mem_cons_of_mem _ (in_Ed w h)) hown hK hP 0 rfl rfl 2 (by decide) (hts _ (List.mem_cons_of_mem _ tw_42)) (fun _ h9 => h9) rfl d_Ed_round_19 ?_
    refine lv_iload_n hx hb d_Ed_round_22 rfl (lv_at hl 1 rfl) ?_
    refine ed_pc (pc' := 23) rfl ?_
    refine ed_iadd hx hb d_Ed_round_23 ?_
    refine ed_tz (y := (j : Int)) (hj) ?_
    refine lv_istore_n hx hb d_Ed_round_24 rfl hl (by decide) rfl (fun ls hl => ?_)
    have hl : lv_has ls 3 [(2, .int (iI ((j : Int)))), (0, .ref x), (1, .int (iI (n)))] := hl
    refine lv_iload_n hx hb d_Ed_round_25 rfl (lv_at hl 0 rfl) ?_
    refine ed_if_lt (tgt := 55) hx hb d_Ed_round_26 rfl (by omega) (fun h_2 => ?_) (fun h_2 => ?_)
    · exact absurd h_2 (by omega)
    · skip
      refine ed_pc (pc' := 29) rfl ?_
      refine lv_iload_n hx hb d_Ed_round_29 rfl (lv_at hl 0 rfl) ?_
      refine lv_aload_n hx hb d_Ed_round_30 rfl (lv_at hl 1 rfl) ?_
      refine va_get (D := D) (ci := 1) (v := .int (iI (((dl X : Nat) : Int)))) (C := R_Ed) (T := T_Ed) (N := 5) hx hb hts (fun w h => List.mem_cons_of_mem _ (in_Ed w h)) hown hK hP 0 rfl rfl 1 (by decide) (hts _ (List.mem_cons_of_mem _ tw_41)) (fun _ h9 => h9) rfl d_Ed_round_31 ?_
      refine ed_icmp_ge (tgt := 55) hx hb d_Ed_round_34 rfl (by omega) (by omega) (fun h_3 => ?_) (fun h_3 => ?_)
      · exact absurd h_3 (by omega)
      · skip
        refine ed_pc (pc' := 37) rfl ?_
        obtain ⟨d, hd0⟩ : ∃ d : Nat, d = X / 10 ^ (dl X - 1 - j) % 10 := ⟨_, rfl⟩
        have hd9 : d < 10 := by rw [hd0]; exact dg_lt _ _
        rw [← hd0] at h5
        refine ed_pc (pc' := 37) rfl ?_
        refine lv_aload_n hx hb d_Ed_round_37 rfl (lv_at hl 1 rfl) ?_
        refine va_get (D := D) (ci := 1) (v := .ref dg) (C := R_Ed) (T := T_Ed) (N := 5) hx hb hts (fun w h => List.mem_cons_of_mem _ (in_Ed w h)) hown hK hP 0 rfl rfl 0 (by decide) (hts _ (List.mem_cons_of_mem _ tw_40)) (fun _ h9 => h9) rfl d_Ed_round_38 ?_
        refine lv_iload_n hx hb d_Ed_round_41 rfl (lv_at hl 0 rfl) ?_
        refine ed_bald (y := (d : Int)) hx hb hK hP 1 0 rfl rfl (j) (by omega) (by omega) (by decide) (by rw [hd0]; exact hnm.2.2 j hjd) d_Ed_round_42 ?_
        refine lv_iconst (v := iI 5) hx hb d_Ed_round_43 rfl ?_
        refine ed_icmp_lt (tgt := 55) hx hb d_Ed_round_44 rfl (by omega) (by omega) (fun h_4 => ?_) (fun h_4 => ?_)
        · exact absurd h_4 (by omega)
        · skip
          refine ed_pc (pc' := 47) rfl ?_
          refine lv_aload_n hx hb d_Ed_round_47 rfl (lv_at hl 1 rfl) ?_
          refine lv_iload_n hx hb d_Ed_round_48 rfl (lv_at hl 0 rfl) ?_
          refine ed_pc (pc' := 49) rfl ?_
          refine c_fv (wc := [(x, .inr (1, [.ref dg, .int (iI (((dl X : Nat) : Int))), .int (iI (pt)), .int (iI (zl)), .ref q])), (dg, .inl (cB, 1200, .inl g))]) (wr := []) (va_runV (C := "ExactDigits") (As := [.int (iI ((j : Int)))]) (rest := []) ⟨hx, hb, hml, hown, hts⟩ (c_Ed_keepFirstAndOneMore l D cB cI cJ t5 ad x dg q g pt zl X j hnm (by omega) H.size) (cwV 1 hts (gV tw_324 tw_326 ts_13 tw_1 tw_327) rfl rfl rfl (by decide +kernel) ⟨Nat.le_of_ble_eq_true rfl, Nat.le_of_ble_eq_true rfl⟩) ⟨c_blind (eX_X t5 ad), va_recv (ci := 1) (q0 := 0) hK hP rfl rfl, fun U hU hW => c_pre (wc := [(x, .inr (1, [.ref dg, .int (iI (((dl X : Nat) : Int))), .int (iI (pt)), .int (iI (zl)), .ref q])), (dg, .inl (cB, 1200, .inl g))]) (eX_X t5 ad) hE hK hP hD hS hA [0, 1] rfl (by decide) U hU hW⟩ rfl rfl hl.1 rfl (lv_room (Nat.le_of_ble_eq_true rfl)) d_Ed_round_49 ⟨Nat.le_of_ble_eq_true rfl, Nat.le_of_ble_eq_true rfl⟩) hP hD hS hA [0, 1] [] rfl rfl (by decide) (by decide) (fun u H locs hp hP hD hS => ?_)
          obtain ⟨g2, hn2, rfl⟩ := hp
          have hP : va_P D ecl [(x, .inr (1, [.ref dg, .int (iI (((dl (rz (X / 10 ^ (dl X - j) + 1)) : Nat) : Int))), .int (iI (if (X / 10 ^ (dl X - j) + 1) = 10 ^ j then pt + 1 else pt)), .int (iI (0)), .ref q])), (dg, .inl (cB, 1200, .inl g2))] H := hP
          have hD : va_D A [(x, .inr (1, [.ref dg, .int (iI (((dl (rz (X / 10 ^ (dl X - j) + 1)) : Nat) : Int))), .int (iI (if (X / 10 ^ (dl X - j) + 1) = 10 ^ j then pt + 1 else pt)), .int (iI (0)), .ref q])), (dg, .inl (cB, 1200, .inl g2))] := hD
          refine lv_goto (tgt := 60) hx hb d_Ed_round_52 rfl ?_
          refine lv_aload_n hx hb d_Ed_round_60 rfl (lv_at hl 1 rfl) ?_
          refine va_get (D := D) (ci := 1) (v := .int (iI (((dl (rz (X / 10 ^ (dl X - j) + 1)) : Nat) : Int)))) (C := R_Ed) (T := T_Ed) (N := 5) hx hb hts (fun w h => List.mem_cons_of_mem _ (in_Ed w h)) hown hK hP 0 rfl rfl 1 (by decide) (hts _ (List.mem_cons_of_mem _ tw_41)) (fun _ h9 => h9) rfl d_Ed_round_61 ?_
          exact W.iret (v := (iI (((dl (rz (X / 10 ^ (dl X - j) + 1)) : Nat) : Int)))) hx hb hr (fun t9 ht9 hW9 => ⟨⟨(iI (((dl (rz (X / 10 ^ (dl X - j) + 1)) : Nat) : Int))), [(x, .inr (1, [.ref dg, .int (iI (((dl (rz (X / 10 ^ (dl X - j) + 1)) : Nat) : Int))), .int (iI (if (X / 10 ^ (dl X - j) + 1) = 10 ^ j then pt + 1 else pt)), .int (iI (0)), .ref q])), (dg, .inl (cB, 1200, .inl g2))], rfl, ⟨rfl, g2, hn2, rfl⟩, by rw [ht9]; exact hP, hD⟩, hS.F ht9⟩) hS.2.2 d_Ed_round_64
  · exact absurd h_1 (by omega)
