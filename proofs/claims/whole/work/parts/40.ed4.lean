set_option maxHeartbeats 4000000 in
set_option maxRecDepth 100000 in
theorem c_Ed_told_no (l : Launch) (hl0 : l.stackTraces = false) (D : va_G) (cB cI cJ : ClassId) (t5 : Nat) (ad : Nat → Nat) (x dg q : Nat) (g : Nat → Int32) (zc pt zl k : Int) (hk : iR k) (hk2 : k < 0 ∨ 2 < k) : c_T l m_Ed_told (Cond.code m_Ed_told b_Ed_told 2 (some .int) :: gw) (rmx_ 6 90) (eX t5 ad) D ecl (tyS cB cI cJ) [.ref x, .int (iI (k))] [(x, .inr (1, [.ref dg, .int (iI (zc)), .int (iI (pt)), .int (iI (zl)), .ref q])), (dg, .inl (cB, 1200, .inl g))] xIA := by
  intro sz0
  refine vx_ofW (cc := b_Ed_told) (maxL := 2) (ret := (some .int)) (by decide) rfl ?_
  intro p e s m args below meth c s₁ B hml htab hv
  obtain ⟨rfl, hsz, hP, hK, hD0, hE⟩ := hv
  have hx := B.exec
  have hb := B.bytes
  have hr := B.returns
  have hts := atoms_spec (ws := Cond.code m_Ed_told b_Ed_told 2 (some .int) :: gw) B.pre
  have hown : s.vm.findClass R_Ed = some m.cls := findClass_of_methodNamed B.named
  have hlocks := B.notSynchronized
  subst hsz
  have hD := hD0.self (sz := s.heap.size)
  generalize hAe : va_A [(x, .inr (1, [.ref dg, .int (iI (zc)), .int (iI (pt)), .int (iI (zl)), .ref q])), (dg, .inl (cB, 1200, .inl g))] s.heap.size = A at hD hE ⊢
  have hA : ∀ q : Nat, s.heap.size ≤ q → A q := fun q h => by rw [← hAe]; exact Or.inr h
  have hS : va_S A s.heap s.heap [] := va_S.rf
  have hl := lv_entry ([.ref x, .int (iI (k))]) (n := 2) (Nat.le_of_ble_eq_true rfl)
  rw [lg_entry_eq]
  generalize (lg_sl ([.ref x, .int (iI (k))]) ++ List.replicate (2 - (lg_sl ([.ref x, .int (iI (k))])).length) Slot.unset).toArray = ls at hl ⊢
  have hl : lv_has ls 2 [(0, .ref x), (1, .int (iI (k)))] := hl
  refine lv_iload_n hx hb d_Ed_told_0 rfl (lv_at hl 1 rfl) ?_
  refine lv_tableOut (tgt := 51) hx hb d_Ed_told_1 (by rw [iI_toInt hk]; omega) rfl ?_
  exact vx_throw0 (own := "ExactDigits") (cls := xIA) (names := xNm) (rest := []) hx hb hl0 hown (by decide +kernel) (by decide +kernel) (hts _ (List.mem_cons_of_mem _ tw_284)) (hts _ (List.mem_cons_of_mem _ tw_15)) (vx_hat (fun w h => hts w (List.mem_cons_of_mem _ (ta_IA w h))) tb_IA (eW_IA hE.2.2.2.2.2.2.2.2.2.2.2)) tg_IA hE.2.2.2.2.2.2.2.2.2.1 hE.2.2.2.2.2.2.2.2.2.2.1 hS (hl.1.trans hml.symm) d_Ed_told_51 d_Ed_told_54 d_Ed_told_55 d_Ed_told_58 (fun x h => (htab x h).elim) (Nat.le_of_ble_eq_true rfl) (Nat.le_of_ble_eq_true rfl) (Nat.le_of_ble_eq_true rfl) (Nat.le_of_ble_eq_true rfl) hlocks (fun t9 hv9 hz9 hk9 => c_xc hP hD hS hz9 hk9) hS.2.2 (Nat.le_of_ble_eq_true rfl) (Nat.le_of_ble_eq_true rfl)
set_option maxHeartbeats 4000000 in
set_option maxRecDepth 100000 in
theorem c_Ed_told (l : Launch) (D : va_G) (cB cI cJ : ClassId) (t5 : Nat) (ad : Nat → Nat) (x dg q : Nat) (g : Nat → Int32) (pt zl k : Int) (X : Nat) (hk3 : k = 0 ∨ k = 1 ∨ k = 2) (hzl : zl = 0 ∨ zl = 1) : c_I l m_Ed_told (Cond.code m_Ed_told b_Ed_told 2 (some .int) :: gw) (rm_ 6 90) (eX t5 ad) D ecl (tyS cB cI cJ) [.ref x, .int (iI (k))] [(x, .inr (1, [.ref dg, .int (iI (((dl X : Nat) : Int))), .int (iI (pt)), .int (iI (zl)), .ref q])), (dg, .inl (cB, 1200, .inl g))] (fun r u => r = iI (if k = 0 then ((dl X : Nat) : Int) else if k = 1 then pt else zl) ∧ u = [(x, .inr (1, [.ref dg, .int (iI (((dl X : Nat) : Int))), .int (iI (pt)), .int (iI (zl)), .ref q])), (dg, .inl (cB, 1200, .inl g))]) 0 0 := by
  intro sz0
  refine Met.ofW (cc := b_Ed_told) (maxL := 2) (ret := (some .int)) (by decide) rfl ?_
  intro p e s m args below meth c s₁ B hml hv
  obtain ⟨rfl, hsz, hP, hK, hD0, hE⟩ := hv
  have hx := B.exec
  have hb := B.bytes
  have hr := B.returns
  have hts := atoms_spec (ws := Cond.code m_Ed_told b_Ed_told 2 (some .int) :: gw) B.pre
  have hown : s.vm.findClass R_Ed = some m.cls := findClass_of_methodNamed B.named
  have hlocks := B.notSynchronized
  subst hsz
  have hD := hD0.self (sz := s.heap.size)
  generalize hAe : va_A [(x, .inr (1, [.ref dg, .int (iI (((dl X : Nat) : Int))), .int (iI (pt)), .int (iI (zl)), .ref q])), (dg, .inl (cB, 1200, .inl g))] s.heap.size = A at hD hE ⊢
  have hA : ∀ q : Nat, s.heap.size ≤ q → A q := fun q h => by rw [← hAe]; exact Or.inr h
  have hS : va_S A s.heap s.heap [] := va_S.rf
  have hl := lv_entry ([.ref x, .int (iI (k))]) (n := 2) (Nat.le_of_ble_eq_true rfl)
  rw [lg_entry_eq]
  generalize (lg_sl ([.ref x, .int (iI (k))]) ++ List.replicate (2 - (lg_sl ([.ref x, .int (iI (k))])).length) Slot.unset).toArray = ls at hl ⊢
  have hl : lv_has ls 2 [(0, .ref x), (1, .int (iI (k)))] := hl
  refine lv_iload_n hx hb d_Ed_told_0 rfl (lv_at hl 1 rfl) ?_
  rcases hk3 with rfl | rfl | rfl
  · skip
    refine lv_tableIn (tgt := 28) hx hb d_Ed_told_1 (by decide +kernel) (by decide +kernel) rfl rfl ?_
    refine lv_aload_n hx hb d_Ed_told_28 rfl (lv_at hl 0 rfl) ?_
    refine va_get (D := D) (ci := 1) (v := .int (iI (((dl X : Nat) : Int)))) (C := R_Ed) (T := T_Ed) (N := 5) hx hb hts (fun w h => List.mem_cons_of_mem _ (in_Ed w h)) hown hK hP 0 rfl rfl 1 (by decide) (hts _ (List.mem_cons_of_mem _ tw_41)) (fun _ h9 => h9) rfl d_Ed_told_29 ?_
    exact W.iret (v := (iI (((dl X : Nat) : Int)))) hx hb hr (fun t9 ht9 hW9 => ⟨⟨(iI (((dl X : Nat) : Int))), [(x, .inr (1, [.ref dg, .int (iI (((dl X : Nat) : Int))), .int (iI (pt)), .int (iI (zl)), .ref q])), (dg, .inl (cB, 1200, .inl g))], rfl, ⟨rfl, rfl⟩, by rw [ht9]; exact hP, hD⟩, hS.F ht9⟩) hS.2.2 d_Ed_told_32
  · skip
    refine lv_tableIn (tgt := 33) hx hb d_Ed_told_1 (by decide +kernel) (by decide +kernel) rfl rfl ?_
    refine lv_aload_n hx hb d_Ed_told_33 rfl (lv_at hl 0 rfl) ?_
    refine va_get (D := D) (ci := 1) (v := .int (iI (pt))) (C := R_Ed) (T := T_Ed) (N := 5) hx hb hts (fun w h => List.mem_cons_of_mem _ (in_Ed w h)) hown hK hP 0 rfl rfl 2 (by decide) (hts _ (List.mem_cons_of_mem _ tw_42)) (fun _ h9 => h9) rfl d_Ed_told_34 ?_
    exact W.iret (v := (iI (pt))) hx hb hr (fun t9 ht9 hW9 => ⟨⟨(iI (pt)), [(x, .inr (1, [.ref dg, .int (iI (((dl X : Nat) : Int))), .int (iI (pt)), .int (iI (zl)), .ref q])), (dg, .inl (cB, 1200, .inl g))], rfl, ⟨rfl, rfl⟩, by rw [ht9]; exact hP, hD⟩, hS.F ht9⟩) hS.2.2 d_Ed_told_37
  · skip
    refine lv_tableIn (tgt := 38) hx hb d_Ed_told_1 (by decide +kernel) (by decide +kernel) rfl rfl ?_
    refine lv_aload_n hx hb d_Ed_told_38 rfl (lv_at hl 0 rfl) ?_
    refine va_get (D := D) (ci := 1) (v := .int (iI (zl))) (C := R_Ed) (T := T_Ed) (N := 5) hx hb hts (fun w h => List.mem_cons_of_mem _ (in_Ed w h)) hown hK hP 0 rfl rfl 3 (by decide) (hts _ (List.mem_cons_of_mem _ tw_43)) (fun _ h9 => h9) rfl d_Ed_told_39 ?_
    refine ed_if_eq (tgt := 49) hx hb d_Ed_told_42 rfl (by omega) (fun h_1 => ?_) (fun h_1 => ?_)
    · skip
      refine ed_pc (pc' := 49) rfl ?_
      refine lv_iconst (v := iI 0) hx hb d_Ed_told_49 rfl ?_
      refine ed_tz (y := zl) (by omega) ?_
      exact W.iret (v := (iI (zl))) hx hb hr (fun t9 ht9 hW9 => ⟨⟨(iI (zl)), [(x, .inr (1, [.ref dg, .int (iI (((dl X : Nat) : Int))), .int (iI (pt)), .int (iI (zl)), .ref q])), (dg, .inl (cB, 1200, .inl g))], rfl, ⟨rfl, rfl⟩, by rw [ht9]; exact hP, hD⟩, hS.F ht9⟩) hS.2.2 d_Ed_told_50
    · skip
      refine ed_pc (pc' := 45) rfl ?_
      refine lv_iconst (v := iI 1) hx hb d_Ed_told_45 rfl ?_
      refine lv_goto (tgt := 50) hx hb d_Ed_told_46 rfl ?_
      refine ed_tz (y := zl) (by omega) ?_
      exact W.iret (v := (iI (zl))) hx hb hr (fun t9 ht9 hW9 => ⟨⟨(iI (zl)), [(x, .inr (1, [.ref dg, .int (iI (((dl X : Nat) : Int))), .int (iI (pt)), .int (iI (zl)), .ref q])), (dg, .inl (cB, 1200, .inl g))], rfl, ⟨rfl, rfl⟩, by rw [ht9]; exact hP, hD⟩, hS.F ht9⟩) hS.2.2 d_Ed_told_50
