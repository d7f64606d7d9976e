set_option maxHeartbeats 4000000 in
set_option maxRecDepth 100000 in
theorem c_Ed_finiteSize (l : Launch) (D : va_G) (cB cI cJ : ClassId) (t5 : Nat) (ad : Nat → Nat) (kf b : Nat) (hkf : kf < 2) (hb64 : b < 2 ^ 64) (hfin : b % (mkz kf + 1) < ifz kf) : c_L l m_Ed_finiteSize (Cond.code m_Ed_finiteSize b_Ed_finiteSize 5 (some .long) :: gw) (rm_ 6 90) (eX t5 ad) D ecl (tyS cB cI cJ) [.long (lN b), .ref (ad kf)] [] (fun r u => r = jI ((b % (mkz kf + 1) : Nat) : Int) ∧ u = []) 0 0 := by
  intro sz0
  refine Met.ofW (cc := b_Ed_finiteSize) (maxL := 5) (ret := (some .long)) (by decide) rfl ?_
  intro p e s m args below meth c s₁ B hml hv
  obtain ⟨rfl, hsz, hP, hK, hD0, hE⟩ := hv
  have hx := B.exec
  have hb := B.bytes
  have hr := B.returns
  have hts := atoms_spec (ws := Cond.code m_Ed_finiteSize b_Ed_finiteSize 5 (some .long) :: gw) B.pre
  have hown : s.vm.findClass R_Ed = some m.cls := findClass_of_methodNamed B.named
  have hlocks := B.notSynchronized
  subst hsz
  have hD := hD0.self (sz := s.heap.size)
  generalize hAe : va_A [] s.heap.size = A at hD hE ⊢
  have hA : ∀ q : Nat, s.heap.size ≤ q → A q := fun q h => by rw [← hAe]; exact Or.inr h
  have hS : va_S A s.heap s.heap [] := va_S.rf
  have hl := lv_entry ([.long (lN b), .ref (ad kf)]) (n := 5) (Nat.le_of_ble_eq_true rfl)
  rw [lg_entry_eq]
  generalize (lg_sl ([.long (lN b), .ref (ad kf)]) ++ List.replicate (5 - (lg_sl ([.long (lN b), .ref (ad kf)])).length) Slot.unset).toArray = ls at hl ⊢
  have hl : lv_has ls 5 [(0, .long (lN b)), (2, .ref (ad kf))] := hl
  have hE0 := hE
  obtain ⟨hE1, hE2, hE3, hE4, hE5, hE6, hE7, hE8, hE9, hE10, hE11, hE12⟩ := hE0
  have hfz := fz_all kf hkf
  obtain ⟨y, hy⟩ : ∃ y : Nat, y = b % (mkz kf + 1) := ⟨_, rfl⟩
  have hyl : y ≤ mkz kf := by rw [hy]; exact Nat.le_of_lt_succ (Nat.mod_lt _ (Nat.succ_pos _))
  rw [← hy] at hfin
  refine lv_aload_n hx hb d_Ed_finiteSize_0 rfl (lv_at hl 1 rfl) ?_
  refine lv_lload_n hx hb d_Ed_finiteSize_1 rfl (lv_at hl 0 rfl) ?_
  refine c_fl (wc := []) (wr := []) (va_runV (C := "ExactDigits$Format") (As := [.long (lN b)]) (rest := []) ⟨hx, hb, hml, hown, hts⟩ (c_Fo_withoutSign l D cB cI cJ t5 ad kf b hkf hb64 s.heap.size) (cwV 1 hts (gV tw_166 tw_167 tw_168 tw_10 tw_169) rfl rfl rfl (by decide +kernel) ⟨Nat.le_of_ble_eq_true rfl, Nat.le_of_ble_eq_true rfl⟩) ⟨c_blind (eX_X t5 ad), va_Orecv (hE5 kf hkf) hS, fun U hU hW => c_pre (wc := []) (eX_X t5 ad) hE hK hP hD hS hA [] rfl (by decide) U hU hW⟩ rfl rfl hl.1 rfl (lv_room (Nat.le_of_ble_eq_true rfl)) d_Ed_finiteSize_2 ⟨Nat.le_of_ble_eq_true rfl, Nat.le_of_ble_eq_true rfl⟩) hP hD hS hA [] [] rfl rfl (by decide) (by decide) (fun r u H locs hp hP hD hS => ?_)
  obtain ⟨rfl, rfl⟩ := hp
  have hP : va_P D ecl [] H := hP
  have hD : va_D A [] := hD
  refine ed_tj (y := (y : Int)) (by rw [hy]) ?_
  refine lv_lstore_n hx hb d_Ed_finiteSize_5 rfl hl (by decide) rfl (fun ls hl => ?_)
  have hl : lv_has ls 5 [(3, .long (jI ((y : Int)))), (0, .long (lN b)), (2, .ref (ad kf))] := hl
  refine lv_lload_n hx hb d_Ed_finiteSize_6 rfl (lv_at hl 0 rfl) ?_
  refine lv_aload_n hx hb d_Ed_finiteSize_7 rfl (lv_at hl 2 rfl) ?_
  refine va_getX hx hb hE9 hkf hS hown (hts _ (List.mem_cons_of_mem _ tw_598)) (fun _ h9 => h9) d_Ed_finiteSize_8 ?_
  refine ed_pc (pc' := 11) rfl ?_
  refine ed_lif_lt (tgt := 23) hx hb d_Ed_finiteSize_11 d_Ed_finiteSize_12 rfl (by omega) (by omega) (fun h_1 => ?_) (fun h_1 => ?_)
  · skip
    refine ed_pc (pc' := 23) rfl ?_
    refine lv_lload_n hx hb d_Ed_finiteSize_23 rfl (lv_at hl 0 rfl) ?_
    exact W.lret (v := (jI ((y : Int)))) hx hb hr (fun t9 ht9 hW9 => ⟨⟨(jI ((y : Int))), [], rfl, ⟨by rw [hy], rfl⟩, by rw [ht9]; exact hP, hD⟩, hS.F ht9⟩) hS.2.2 d_Ed_finiteSize_24
  · exact absurd h_1 (by omega)
set_option maxHeartbeats 4000000 in
set_option maxRecDepth 100000 in
theorem c_Ed_finiteSize_no (l : Launch) (hl0 : l.stackTraces = false) (D : va_G) (cB cI cJ : ClassId) (t5 : Nat) (ad : Nat → Nat) (kf b : Nat) (hkf : kf < 2) (hb64 : b < 2 ^ 64) (hfin : ifz kf ≤ b % (mkz kf + 1)) : c_TL l m_Ed_finiteSize (Cond.code m_Ed_finiteSize b_Ed_finiteSize 5 (some .long) :: gw) (rmx_ 6 90) (eX t5 ad) D ecl (tyS cB cI cJ) [.long (lN b), .ref (ad kf)] [] xAE := by
  intro sz0
  refine vx_ofW (cc := b_Ed_finiteSize) (maxL := 5) (ret := (some .long)) (by decide) rfl ?_
  intro p e s m args below meth c s₁ B hml htab hv
  obtain ⟨rfl, hsz, hP, hK, hD0, hE⟩ := hv
  have hx := B.exec
  have hb := B.bytes
  have hr := B.returns
  have hts := atoms_spec (ws := Cond.code m_Ed_finiteSize b_Ed_finiteSize 5 (some .long) :: gw) B.pre
  have hown : s.vm.findClass R_Ed = some m.cls := findClass_of_methodNamed B.named
  have hlocks := B.notSynchronized
  subst hsz
  have hD := hD0.self (sz := s.heap.size)
  generalize hAe : va_A [] s.heap.size = A at hD hE ⊢
  have hA : ∀ q : Nat, s.heap.size ≤ q → A q := fun q h => by rw [← hAe]; exact Or.inr h
  have hS : va_S A s.heap s.heap [] := va_S.rf
  have hl := lv_entry ([.long (lN b), .ref (ad kf)]) (n := 5) (Nat.le_of_ble_eq_true rfl)
  rw [lg_entry_eq]
  generalize (lg_sl ([.long (lN b), .ref (ad kf)]) ++ List.replicate (5 - (lg_sl ([.long (lN b), .ref (ad kf)])).length) Slot.unset).toArray = ls at hl ⊢
  have hl : lv_has ls 5 [(0, .long (lN b)), (2, .ref (ad kf))] := hl
  have hE0 := hE
  obtain ⟨hE1, hE2, hE3, hE4, hE5, hE6, hE7, hE8, hE9, hE10, hE11, hE12⟩ := hE0
  have hfz := fz_all kf hkf
  obtain ⟨y, hy⟩ : ∃ y : Nat, y = b % (mkz kf + 1) := ⟨_, rfl⟩
  have hyl : y ≤ mkz kf := by rw [hy]; exact Nat.le_of_lt_succ (Nat.mod_lt _ (Nat.succ_pos _))
  rw [← hy] at hfin
  refine lv_aload_n hx hb d_Ed_finiteSize_0 rfl (lv_at hl 1 rfl) ?_
  refine lv_lload_n hx hb d_Ed_finiteSize_1 rfl (lv_at hl 0 rfl) ?_
  refine c_fl (wc := []) (wr := []) (va_runV (C := "ExactDigits$Format") (As := [.long (lN b)]) (rest := []) ⟨hx, hb, hml, hown, hts⟩ (c_Fo_withoutSign l D cB cI cJ t5 ad kf b hkf hb64 s.heap.size) (cwV 1 hts (gV tw_166 tw_167 tw_168 tw_10 tw_169) rfl rfl rfl (by decide +kernel) ⟨Nat.le_of_ble_eq_true rfl, Nat.le_of_ble_eq_true rfl⟩) ⟨c_blind (eX_X t5 ad), va_Orecv (hE5 kf hkf) hS, fun U hU hW => c_pre (wc := []) (eX_X t5 ad) hE hK hP hD hS hA [] rfl (by decide) U hU hW⟩ rfl rfl hl.1 rfl (lv_room (Nat.le_of_ble_eq_true rfl)) d_Ed_finiteSize_2 ⟨Nat.le_of_ble_eq_true rfl, Nat.le_of_ble_eq_true rfl⟩) hP hD hS hA [] [] rfl rfl (by decide) (by decide) (fun r u H locs hp hP hD hS => ?_)
  obtain ⟨rfl, rfl⟩ := hp
  have hP : va_P D ecl [] H := hP
  have hD : va_D A [] := hD
  refine ed_tj (y := (y : Int)) (by rw [hy]) ?_
  refine lv_lstore_n hx hb d_Ed_finiteSize_5 rfl hl (by decide) rfl (fun ls hl => ?_)
  have hl : lv_has ls 5 [(3, .long (jI ((y : Int)))), (0, .long (lN b)), (2, .ref (ad kf))] := hl
  refine lv_lload_n hx hb d_Ed_finiteSize_6 rfl (lv_at hl 0 rfl) ?_
  refine lv_aload_n hx hb d_Ed_finiteSize_7 rfl (lv_at hl 2 rfl) ?_
  refine va_getX hx hb hE9 hkf hS hown (hts _ (List.mem_cons_of_mem _ tw_598)) (fun _ h9 => h9) d_Ed_finiteSize_8 ?_
  refine ed_pc (pc' := 11) rfl ?_
  refine ed_lif_lt (tgt := 23) hx hb d_Ed_finiteSize_11 d_Ed_finiteSize_12 rfl (by omega) (by omega) (fun h_1 => ?_) (fun h_1 => ?_)
  · exact absurd h_1 (by omega)
  · skip
    refine ed_pc (pc' := 15) rfl ?_
    exact vx_throw0 (own := "ExactDigits") (cls := xAE) (names := xNm) (rest := []) hx hb hl0 hown (by decide +kernel) (by decide +kernel) (hts _ (List.mem_cons_of_mem _ tw_170)) (hts _ (List.mem_cons_of_mem _ tw_14)) (vx_hat (fun w h => hts w (List.mem_cons_of_mem _ (ta_AE w h))) tb_AE (eW_AE hE.2.2.2.2.2.2.2.2.2.2.2)) tg_AE hE.2.2.2.2.2.2.2.2.2.1 hE.2.2.2.2.2.2.2.2.2.2.1 hS (hl.1.trans hml.symm) d_Ed_finiteSize_15 d_Ed_finiteSize_18 d_Ed_finiteSize_19 d_Ed_finiteSize_22 (fun x h => (htab x h).elim) (Nat.le_of_ble_eq_true rfl) (Nat.le_of_ble_eq_true rfl) (Nat.le_of_ble_eq_true rfl) (Nat.le_of_ble_eq_true rfl) hlocks (fun t9 hv9 hz9 hk9 => c_xc hP hD hS hz9 hk9) hS.2.2 (Nat.le_of_ble_eq_true rfl) (Nat.le_of_ble_eq_true rfl)
