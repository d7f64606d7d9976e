set_option maxHeartbeats 4000000 in
set_option maxRecDepth 100000 in
theorem c_La_real (l : Launch) (D : va_G) (cB cI cJ : ClassId) (t5 : Nat) (ad : Nat → Nat) (ou : Nat) (o : Nat → Int64) {x : Nat} {v0 : Int64} {v1 : Int32} {fs : List Value} {a2 : Nat} {w2 : va_E} {a3 : Nat} {w3 : va_E} {a4 : Nat} {w4 : va_E} {P : Int32 → va_W → Prop} (hM : c_I l m_Ed_real (Cond.code m_Ed_real b_Ed_real 5 (some .int) :: gw) (rm_ 7 116) (eX t5 ad) D ecl (tyS cB cI cJ) [.ref x, .long (v0), .int (v1)] [(x, .inr (1, fs)), (a2, w2), (a3, w3), (a4, w4)] P 0 0) : c_I l m_La_real (Cond.codeWith m_La_real b_La_real 6 (some .int) [(0, 11, 14, 13)] :: gw) (rm_ 8 140) (eX t5 ad) D ecl (tyS cB cI cJ) [.ref x, .long (v0), .int (v1), .ref ou] [(ou, .inl (cJ, 1, .inr (.inl o))), (x, .inr (1, fs)), (a2, w2), (a3, w3), (a4, w4)] (fun r u => r = iI 0 ∧ ∃ (r0 : Int32) (u0 : va_W) (o' : Nat → Int64), P r0 u0 ∧ o' 0 = r0.toInt64 ∧ u = (ou, .inl (cJ, 1, .inr (.inl o'))) :: u0) 0 0 := by
  intro sz0
  refine va_MetW (cc := b_La_real) (maxL := 6) (ret := some .int) (hh := [(0, 11, 14, 13)]) (by decide) rfl ?_
  intro p e s m args below meth c s₁ B hml hv
  obtain ⟨rfl, hsz, hP, hK, hD0, hE⟩ := hv
  have hx := B.exec
  have hb := B.bytes
  have hr := B.returns
  have hts := atoms_spec (ws := Cond.codeWith m_La_real b_La_real 6 (some .int) [(0, 11, 14, 13)] :: gw) B.pre
  have hown : s.vm.findClass R_La = some m.cls := findClass_of_methodNamed B.named
  have hlocks := B.notSynchronized
  subst hsz
  have hD := hD0.self (sz := s.heap.size)
  generalize hAe : va_A [(ou, .inl (cJ, 1, .inr (.inl o))), (x, .inr (1, fs)), (a2, w2), (a3, w3), (a4, w4)] s.heap.size = A at hD hE ⊢
  have hA : ∀ q : Nat, s.heap.size ≤ q → A q := fun q h => by rw [← hAe]; exact Or.inr h
  have hS : va_S A s.heap s.heap [] := va_S.rf
  have hl := lv_entry ([.ref x, .long (v0), .int (v1), .ref ou]) (n := 6) (Nat.le_of_ble_eq_true rfl)
  rw [lg_entry_eq]
  generalize (lg_sl ([.ref x, .long (v0), .int (v1), .ref ou]) ++ List.replicate (6 - (lg_sl ([.ref x, .long (v0), .int (v1), .ref ou])).length) Slot.unset).toArray = ls at hl ⊢
  have hl : lv_has ls 6 [(0, .ref x), (1, .long (v0)), (3, .int (v1)), (4, .ref ou)] := hl
  refine lv_aload hx hb d_La_real_0 (lv_at hl 3 rfl) ?_
  refine lv_iconst (v := iI 0) hx hb d_La_real_2 rfl ?_
  refine lv_aload_n hx hb d_La_real_3 rfl (lv_at hl 0 rfl) ?_
  refine lv_lload_n hx hb d_La_real_4 rfl (lv_at hl 1 rfl) ?_
  refine lv_iload_n hx hb d_La_real_5 rfl (lv_at hl 2 rfl) ?_
  refine c_fi (wc := [(x, .inr (1, fs)), (a2, w2), (a3, w3), (a4, w4)]) (wr := [(ou, .inl (cJ, 1, .inr (.inl o)))]) (va_runV (C := "ExactDigits") (As := [.long (v0), .int (v1)]) (rest := [.int (iI (0)), .ref ou]) ⟨hx, hb, hml, hown, hts⟩ (hM s.heap.size) (cwV 2 hts (gV tw_159 tw_160 tw_161 tw_1 tw_162) rfl rfl rfl (by decide +kernel) ⟨Nat.le_of_ble_eq_true rfl, Nat.le_of_ble_eq_true rfl⟩) ⟨c_blind (eX_X t5 ad), va_recv (ci := 1) (q0 := 1) hK hP rfl rfl, fun U hU hW => c_pre (wc := [(x, .inr (1, fs)), (a2, w2), (a3, w3), (a4, w4)]) (eX_X t5 ad) hE hK hP hD hS hA [1, 2, 3, 4] rfl (by decide) U hU hW⟩ rfl rfl hl.1 rfl (lv_room (Nat.le_of_ble_eq_true rfl)) d_La_real_6 ⟨Nat.le_of_ble_eq_true rfl, Nat.le_of_ble_eq_true rfl⟩) hP hD hS hA [1, 2, 3, 4] [0] rfl rfl (by decide) (by decide) (fun r u H locs hp hP hD hS => ?_)
  have hP : va_P D ecl ((ou, .inl (cJ, 1, .inr (.inl o))) :: u) H := hP
  have hD : va_D A ((ou, .inl (cJ, 1, .inr (.inl o))) :: u) := hD
  refine lv_i2l hx hb d_La_real_9 rfl ?_
  refine ed_last0 hx hb hK hP hD hS 0 2 rfl rfl d_La_real_10 (fun H locs o' ho hP hD hS => ?_)
  have hP : va_P D ecl ((ou, .inl (cJ, 1, .inr (.inl o'))) :: u) H := hP
  have hD : va_D A ((ou, .inl (cJ, 1, .inr (.inl o'))) :: u) := hD
  refine lv_goto (tgt := 18) hx hb d_La_real_11 rfl ?_
  refine lv_iconst (v := iI 0) hx hb d_La_real_18 rfl ?_
  exact W.iret (v := iI 0) hx hb hr (fun t9 ht9 hW9 => ⟨⟨iI 0, (ou, .inl (cJ, 1, .inr (.inl o'))) :: u, rfl, ⟨rfl, r, u, o', hp, ho, rfl⟩, by rw [ht9]; exact hP, hD⟩, hS.F ht9⟩) hS.2.2 d_La_real_19
set_option maxHeartbeats 4000000 in
set_option maxRecDepth 100000 in
theorem c_La_real_no (l : Launch) (D : va_G) (cB cI cJ : ClassId) (t5 : Nat) (ad : Nat → Nat) (ou : Nat) (o : Nat → Int64) {x : Nat} {v0 : Int64} {v1 : Int32} {fs : List Value} {a2 : Nat} {w2 : va_E} {a3 : Nat} {w3 : va_E} {a4 : Nat} {w4 : va_E} (hM : c_T l m_Ed_real (Cond.code m_Ed_real b_Ed_real 5 (some .int) :: gw) (rmx_ 7 116) (eX t5 ad) D ecl (tyS cB cI cJ) [.ref x, .long (v0), .int (v1)] [(x, .inr (1, fs)), (a2, w2), (a3, w3), (a4, w4)] xAE) : c_I l m_La_real (Cond.codeWith m_La_real b_La_real 6 (some .int) [(0, 11, 14, 13)] :: gw) (rmx_ 8 140) (eX t5 ad) D ecl (tyS cB cI cJ) [.ref x, .long (v0), .int (v1), .ref ou] [(ou, .inl (cJ, 1, .inr (.inl o))), (x, .inr (1, fs)), (a2, w2), (a3, w3), (a4, w4)] (fun r u => r = iI 1 ∧ u = [(ou, .inl (cJ, 1, .inr (.inl o))), (x, .inr (1, fs)), (a2, w2), (a3, w3), (a4, w4)]) 1 6 := by
  intro sz0
  refine va_MetW (cc := b_La_real) (maxL := 6) (ret := some .int) (hh := [(0, 11, 14, 13)]) (by decide) rfl ?_
  intro p e s m args below meth c s₁ B hml hv
  obtain ⟨rfl, hsz, hP, hK, hD0, hE⟩ := hv
  have hx := B.exec
  have hb := B.bytes
  have hr := B.returns
  have hts := atoms_spec (ws := Cond.codeWith m_La_real b_La_real 6 (some .int) [(0, 11, 14, 13)] :: gw) B.pre
  have hown : s.vm.findClass R_La = some m.cls := findClass_of_methodNamed B.named
  have hlocks := B.notSynchronized
  subst hsz
  have hD := hD0.self (sz := s.heap.size)
  generalize hAe : va_A [(ou, .inl (cJ, 1, .inr (.inl o))), (x, .inr (1, fs)), (a2, w2), (a3, w3), (a4, w4)] s.heap.size = A at hD hE ⊢
  have hA : ∀ q : Nat, s.heap.size ≤ q → A q := fun q h => by rw [← hAe]; exact Or.inr h
  have hS : va_S A s.heap s.heap [] := va_S.rf
  have hl := lv_entry ([.ref x, .long (v0), .int (v1), .ref ou]) (n := 6) (Nat.le_of_ble_eq_true rfl)
  rw [lg_entry_eq]
  generalize (lg_sl ([.ref x, .long (v0), .int (v1), .ref ou]) ++ List.replicate (6 - (lg_sl ([.ref x, .long (v0), .int (v1), .ref ou])).length) Slot.unset).toArray = ls at hl ⊢
  have hl : lv_has ls 6 [(0, .ref x), (1, .long (v0)), (3, .int (v1)), (4, .ref ou)] := hl
  refine lv_aload hx hb d_La_real_0 (lv_at hl 3 rfl) ?_
  refine lv_iconst (v := iI 0) hx hb d_La_real_2 rfl ?_
  refine lv_aload_n hx hb d_La_real_3 rfl (lv_at hl 0 rfl) ?_
  refine lv_lload_n hx hb d_La_real_4 rfl (lv_at hl 1 rfl) ?_
  refine lv_iload_n hx hb d_La_real_5 rfl (lv_at hl 2 rfl) ?_
  refine c_ft (wc := [(x, .inr (1, fs)), (a2, w2), (a3, w3), (a4, w4)]) (wr := [(ou, .inl (cJ, 1, .inr (.inl o)))]) (vx_runV (C := "ExactDigits") (As := [.long (v0), .int (v1)]) (rest := [.int (iI (0)), .ref ou]) ⟨hx, hb, hml, hown, hts⟩ (hM s.heap.size) (cwV 2 hts (gV tw_159 tw_160 tw_161 tw_1 tw_162) rfl rfl rfl (by decide +kernel) ⟨Nat.le_of_ble_eq_true rfl, Nat.le_of_ble_eq_true rfl⟩) ⟨c_blind (eX_X t5 ad), va_recv (ci := 1) (q0 := 1) hK hP rfl rfl, fun U hU hW => c_pre (wc := [(x, .inr (1, fs)), (a2, w2), (a3, w3), (a4, w4)]) (eX_X t5 ad) hE hK hP hD hS hA [1, 2, 3, 4] rfl (by decide) U hU hW⟩ rfl rfl hl.1 rfl (lv_room (Nat.le_of_ble_eq_true rfl)) d_La_real_6 ⟨Nat.le_of_ble_eq_true rfl, Nat.le_of_ble_eq_true rfl⟩) hP hD hS hA [1, 2, 3, 4] [0] rfl rfl (by decide) (by decide) (fun ce q9 H locs hP hD hS h9 hv9 hc9 => ?_)
  refine vx_catch (name := xAE) hown [] { startPc := 0, endPc := 11, handlerPc := 14, catchType := 13 } [] ((vx_table (x := m_La_real) B (hts _ List.mem_cons_self)).trans rfl) (fun z hz => absurd hz List.not_mem_nil) (by decide) (by decide) (hts _ (List.mem_cons_of_mem _ tw_158)) (va_Nw.use rfl hE.2.2.2.2.2.2.2.2.2.2.2.2.1) h9 hv9 hc9 ?_
  refine ed_pc (pc' := 14) rfl ?_
  have hP : va_P D ecl [(ou, .inl (cJ, 1, .inr (.inl o))), (x, .inr (1, fs)), (a2, w2), (a3, w3), (a4, w4)] H := hP
  have hD : va_D A [(ou, .inl (cJ, 1, .inr (.inl o))), (x, .inr (1, fs)), (a2, w2), (a3, w3), (a4, w4)] := hD
  refine lv_astore hx hb d_La_real_14 hl (by decide) rfl (fun ls hl => ?_)
  have hl : lv_has ls 6 [(5, .ref q9), (0, .ref x), (1, .long (v0)), (3, .int (v1)), (4, .ref ou)] := hl
  refine lv_iconst (v := iI 1) hx hb d_La_real_16 rfl ?_
  exact W.iret (v := (iI (1))) hx hb hr (fun t9 ht9 hW9 => ⟨⟨(iI (1)), [(ou, .inl (cJ, 1, .inr (.inl o))), (x, .inr (1, fs)), (a2, w2), (a3, w3), (a4, w4)], rfl, ⟨rfl, rfl⟩, by rw [ht9]; exact hP, hD⟩, hS.F ht9⟩) hS.2.2 d_La_real_17
set_option maxHeartbeats 4000000 in
set_option maxRecDepth 100000 in
theorem c_La_shortest (l : Launch) (D : va_G) (cB cI cJ : ClassId) (t5 : Nat) (ad : Nat → Nat) (ou : Nat) (o : Nat → Int64) {x : Nat} {v0 : Int64} {v1 : Int32} {fs : List Value} {a2 : Nat} {w2 : va_E} {a3 : Nat} {w3 : va_E} {a4 : Nat} {w4 : va_E} {P : Int32 → va_W → Prop} (hM : c_I l m_Ed_shortest (Cond.code m_Ed_shortest b_Ed_shortest 7 (some .int) :: gw) (rm_ 7 167) (eX t5 ad) D ecl (tyS cB cI cJ) [.ref x, .long (v0), .int (v1)] [(x, .inr (1, fs)), (a2, w2), (a3, w3), (a4, w4)] P 0 0) : c_I l m_La_shortest (Cond.codeWith m_La_shortest b_La_shortest 6 (some .int) [(0, 11, 14, 13)] :: gw) (rm_ 8 193) (eX t5 ad) D ecl (tyS cB cI cJ) [.ref x, .long (v0), .int (v1), .ref ou] [(ou, .inl (cJ, 1, .inr (.inl o))), (x, .inr (1, fs)), (a2, w2), (a3, w3), (a4, w4)] (fun r u => r = iI 0 ∧ ∃ (r0 : Int32) (u0 : va_W) (o' : Nat → Int64), P r0 u0 ∧ o' 0 = r0.toInt64 ∧ u = (ou, .inl (cJ, 1, .inr (.inl o'))) :: u0) 0 0 := by
  intro sz0
  refine va_MetW (cc := b_La_shortest) (maxL := 6) (ret := some .int) (hh := [(0, 11, 14, 13)]) (by decide) rfl ?_
  intro p e s m args below meth c s₁ B hml hv
  obtain ⟨rfl, hsz, hP, hK, hD0, hE⟩ := hv
  have hx := B.exec
  have hb := B.bytes
  have hr := B.returns
  have hts := atoms_spec (ws := Cond.codeWith m_La_shortest b_La_shortest 6 (some .int) [(0, 11, 14, 13)] :: gw) B.pre
  have hown : s.vm.findClass R_La = some m.cls := findClass_of_methodNamed B.named
  have hlocks := B.notSynchronized
  subst hsz
  have hD := hD0.self (sz := s.heap.size)
  generalize hAe : va_A [(ou, .inl (cJ, 1, .inr (.inl o))), (x, .inr (1, fs)), (a2, w2), (a3, w3), (a4, w4)] s.heap.size = A at hD hE ⊢
  have hA : ∀ q : Nat, s.heap.size ≤ q → A q := fun q h => by rw [← hAe]; exact Or.inr h
  have hS : va_S A s.heap s.heap [] := va_S.rf
  have hl := lv_entry ([.ref x, .long (v0), .int (v1), .ref ou]) (n := 6) (Nat.le_of_ble_eq_true rfl)
  rw [lg_entry_eq]
  generalize (lg_sl ([.ref x, .long (v0), .int (v1), .ref ou]) ++ List.replicate (6 - (lg_sl ([.ref x, .long (v0), .int (v1), .ref ou])).length) Slot.unset).toArray = ls at hl ⊢
  have hl : lv_has ls 6 [(0, .ref x), (1, .long (v0)), (3, .int (v1)), (4, .ref ou)] := hl
  refine lv_aload hx hb d_La_shortest_0 (lv_at hl 3 rfl) ?_
  refine lv_iconst (v := iI 0) hx hb d_La_shortest_2 rfl ?_
  refine lv_aload_n hx hb d_La_shortest_3 rfl (lv_at hl 0 rfl) ?_
  refine lv_lload_n hx hb d_La_shortest_4 rfl (lv_at hl 1 rfl) ?_
  refine lv_iload_n hx hb d_La_shortest_5 rfl (lv_at hl 2 rfl) ?_
  refine c_fi (wc := [(x, .inr (1, fs)), (a2, w2), (a3, w3), (a4, w4)]) (wr := [(ou, .inl (cJ, 1, .inr (.inl o)))]) (va_runV (C := "ExactDigits") (As := [.long (v0), .int (v1)]) (rest := [.int (iI (0)), .ref ou]) ⟨hx, hb, hml, hown, hts⟩ (hM s.heap.size) (cwV 2 hts (gV tw_247 tw_248 tw_249 tw_1 tw_250) rfl rfl rfl (by decide +kernel) ⟨Nat.le_of_ble_eq_true rfl, Nat.le_of_ble_eq_true rfl⟩) ⟨c_blind (eX_X t5 ad), va_recv (ci := 1) (q0 := 1) hK hP rfl rfl, fun U hU hW => c_pre (wc := [(x, .inr (1, fs)), (a2, w2), (a3, w3), (a4, w4)]) (eX_X t5 ad) hE hK hP hD hS hA [1, 2, 3, 4] rfl (by decide) U hU hW⟩ rfl rfl hl.1 rfl (lv_room (Nat.le_of_ble_eq_true rfl)) d_La_shortest_6 ⟨Nat.le_of_ble_eq_true rfl, Nat.le_of_ble_eq_true rfl⟩) hP hD hS hA [1, 2, 3, 4] [0] rfl rfl (by decide) (by decide) (fun r u H locs hp hP hD hS => ?_)
  have hP : va_P D ecl ((ou, .inl (cJ, 1, .inr (.inl o))) :: u) H := hP
  have hD : va_D A ((ou, .inl (cJ, 1, .inr (.inl o))) :: u) := hD
  refine lv_i2l hx hb d_La_shortest_9 rfl ?_
  refine ed_last0 hx hb hK hP hD hS 0 2 rfl rfl d_La_shortest_10 (fun H locs o' ho hP hD hS => ?_)
  have hP : va_P D ecl ((ou, .inl (cJ, 1, .inr (.inl o'))) :: u) H := hP
  have hD : va_D A ((ou, .inl (cJ, 1, .inr (.inl o'))) :: u) := hD
  refine lv_goto (tgt := 18) hx hb d_La_shortest_11 rfl ?_
  refine lv_iconst (v := iI 0) hx hb d_La_shortest_18 rfl ?_
  exact W.iret (v := iI 0) hx hb hr (fun t9 ht9 hW9 => ⟨⟨iI 0, (ou, .inl (cJ, 1, .inr (.inl o'))) :: u, rfl, ⟨rfl, r, u, o', hp, ho, rfl⟩, by rw [ht9]; exact hP, hD⟩, hS.F ht9⟩) hS.2.2 d_La_shortest_19
set_option maxHeartbeats 4000000 in
set_option maxRecDepth 100000 in
theorem c_La_shortest_no (l : Launch) (D : va_G) (cB cI cJ : ClassId) (t5 : Nat) (ad : Nat → Nat) (ou : Nat) (o : Nat → Int64) {x : Nat} {v0 : Int64} {v1 : Int32} {fs : List Value} {a2 : Nat} {w2 : va_E} {a3 : Nat} {w3 : va_E} {a4 : Nat} {w4 : va_E} (hM : c_T l m_Ed_shortest (Cond.code m_Ed_shortest b_Ed_shortest 7 (some .int) :: gw) (rmx_ 7 167) (eX t5 ad) D ecl (tyS cB cI cJ) [.ref x, .long (v0), .int (v1)] [(x, .inr (1, fs)), (a2, w2), (a3, w3), (a4, w4)] xAE) : c_I l m_La_shortest (Cond.codeWith m_La_shortest b_La_shortest 6 (some .int) [(0, 11, 14, 13)] :: gw) (rmx_ 8 193) (eX t5 ad) D ecl (tyS cB cI cJ) [.ref x, .long (v0), .int (v1), .ref ou] [(ou, .inl (cJ, 1, .inr (.inl o))), (x, .inr (1, fs)), (a2, w2), (a3, w3), (a4, w4)] (fun r u => r = iI 1 ∧ u = [(ou, .inl (cJ, 1, .inr (.inl o))), (x, .inr (1, fs)), (a2, w2), (a3, w3), (a4, w4)]) 1 6 := by
  intro sz0
  refine va_MetW (cc := b_La_shortest) (maxL := 6) (ret := some .int) (hh := [(0, 11, 14, 13)]) (by decide) rfl ?_
  intro p e s m args below meth c s₁ B hml hv
  obtain ⟨rfl, hsz, hP, hK, hD0, hE⟩ := hv
  have hx := B.exec
  have hb := B.bytes
  have hr := B.returns
  have hts := atoms_spec (ws := Cond.codeWith m_La_shortest b_La_shortest 6 (some .int) [(0, 11, 14, 13)] :: gw) B.pre
  have hown : s.vm.findClass R_La = some m.cls := findClass_of_methodNamed B.named
  have hlocks := B.notSynchronized
  subst hsz
  have hD := hD0.self (sz := s.heap.size)
  generalize hAe : va_A [(ou, .inl (cJ, 1, .inr (.inl o))), (x, .inr (1, fs)), (a2, w2), (a3, w3), (a4, w4)] s.heap.size = A at hD hE ⊢
  have hA : ∀ q : Nat, s.heap.size ≤ q → A q := fun q h => by rw [← hAe]; exact Or.inr h
  have hS : va_S A s.heap s.heap [] := va_S.rf
  have hl := lv_entry ([.ref x, .long (v0), .int (v1), .ref ou]) (n := 6) (Nat.le_of_ble_eq_true rfl)
  rw [lg_entry_eq]
  generalize (lg_sl ([.ref x, .long (v0), .int (v1), .ref ou]) ++ List.replicate (6 - (lg_sl ([.ref x, .long (v0), .int (v1), .ref ou])).length) Slot.unset).toArray = ls at hl ⊢
  have hl : lv_has ls 6 [(0, .ref x), (1, .long (v0)), (3, .int (v1)), (4, .ref ou)] := hl
  refine lv_aload hx hb d_La_shortest_0 (lv_at hl 3 rfl) ?_
  refine lv_iconst (v := iI 0) hx hb d_La_shortest_2 rfl ?_
  refine lv_aload_n hx hb d_La_shortest_3 rfl (lv_at hl 0 rfl) ?_
  refine lv_lload_n hx hb d_La_shortest_4 rfl (lv_at hl 1 rfl) ?_
  refine lv_iload_n hx hb d_La_shortest_5 rfl (lv_at hl 2 rfl) ?_
  refine c_ft (wc := [(x, .inr (1, fs)), (a2, w2), (a3, w3), (a4, w4)]) (wr := [(ou, .inl (cJ, 1, .inr (.inl o)))]) (vx_runV (C := "ExactDigits") (As := [.long (v0), .int (v1)]) (rest := [.int (iI (0)), .ref ou]) ⟨hx, hb, hml, hown, hts⟩ (hM s.heap.size) (cwV 2 hts (gV tw_247 tw_248 tw_249 tw_1 tw_250) rfl rfl rfl (by decide +kernel) ⟨Nat.le_of_ble_eq_true rfl, Nat.le_of_ble_eq_true rfl⟩) ⟨c_blind (eX_X t5 ad), va_recv (ci := 1) (q0 := 1) hK hP rfl rfl, fun U hU hW => c_pre (wc := [(x, .inr (1, fs)), (a2, w2), (a3, w3), (a4, w4)]) (eX_X t5 ad) hE hK hP hD hS hA [1, 2, 3, 4] rfl (by decide) U hU hW⟩ rfl rfl hl.1 rfl (lv_room (Nat.le_of_ble_eq_true rfl)) d_La_shortest_6 ⟨Nat.le_of_ble_eq_true rfl, Nat.le_of_ble_eq_true rfl⟩) hP hD hS hA [1, 2, 3, 4] [0] rfl rfl (by decide) (by decide) (fun ce q9 H locs hP hD hS h9 hv9 hc9 => ?_)
  refine vx_catch (name := xAE) hown [] { startPc := 0, endPc := 11, handlerPc := 14, catchType := 13 } [] ((vx_table (x := m_La_shortest) B (hts _ List.mem_cons_self)).trans rfl) (fun z hz => absurd hz List.not_mem_nil) (by decide) (by decide) (hts _ (List.mem_cons_of_mem _ tw_158)) (va_Nw.use rfl hE.2.2.2.2.2.2.2.2.2.2.2.2.1) h9 hv9 hc9 ?_
  refine ed_pc (pc' := 14) rfl ?_
  have hP : va_P D ecl [(ou, .inl (cJ, 1, .inr (.inl o))), (x, .inr (1, fs)), (a2, w2), (a3, w3), (a4, w4)] H := hP
  have hD : va_D A [(ou, .inl (cJ, 1, .inr (.inl o))), (x, .inr (1, fs)), (a2, w2), (a3, w3), (a4, w4)] := hD
  refine lv_astore hx hb d_La_shortest_14 hl (by decide) rfl (fun ls hl => ?_)
  have hl : lv_has ls 6 [(5, .ref q9), (0, .ref x), (1, .long (v0)), (3, .int (v1)), (4, .ref ou)] := hl
  refine lv_iconst (v := iI 1) hx hb d_La_shortest_16 rfl ?_
  exact W.iret (v := (iI (1))) hx hb hr (fun t9 ht9 hW9 => ⟨⟨(iI (1)), [(ou, .inl (cJ, 1, .inr (.inl o))), (x, .inr (1, fs)), (a2, w2), (a3, w3), (a4, w4)], rfl, ⟨rfl, rfl⟩, by rw [ht9]; exact hP, hD⟩, hS.F ht9⟩) hS.2.2 d_La_shortest_17
set_option maxHeartbeats 4000000 in
set_option maxRecDepth 100000 in
theorem c_La_put (l : Launch) (D : va_G) (cB cI cJ : ClassId) (t5 : Nat) (ad : Nat → Nat) (ou : Nat) (o : Nat → Int64) {x : Nat} {v0 : Int32} {v1 : Int32} {fs : List Value} {a2 : Nat} {w2 : va_E} {P : Int32 → va_W → Prop} (hM : c_I l m_Ed_put (Cond.code m_Ed_put b_Ed_put 4 (some .int) :: gw) (rm_ 6 90) (eX t5 ad) D ecl (tyS cB cI cJ) [.ref x, .int (v0), .int (v1)] [(x, .inr (1, fs)), (a2, w2)] P 0 0) : c_I l m_La_put (Cond.codeWith m_La_put b_La_put 5 (some .int) [(0, 10, 13, 22)] :: gw) (rm_ 7 113) (eX t5 ad) D ecl (tyS cB cI cJ) [.ref x, .int (v0), .int (v1), .ref ou] [(ou, .inl (cJ, 1, .inr (.inl o))), (x, .inr (1, fs)), (a2, w2)] (fun r u => r = iI 0 ∧ ∃ (r0 : Int32) (u0 : va_W) (o' : Nat → Int64), P r0 u0 ∧ o' 0 = r0.toInt64 ∧ u = (ou, .inl (cJ, 1, .inr (.inl o'))) :: u0) 0 0 := by
  intro sz0
  refine va_MetW (cc := b_La_put) (maxL := 5) (ret := some .int) (hh := [(0, 10, 13, 22)]) (by decide) rfl ?_
  intro p e s m args below meth c s₁ B hml hv
  obtain ⟨rfl, hsz, hP, hK, hD0, hE⟩ := hv
  have hx := B.exec
  have hb := B.bytes
  have hr := B.returns
  have hts := atoms_spec (ws := Cond.codeWith m_La_put b_La_put 5 (some .int) [(0, 10, 13, 22)] :: gw) B.pre
  have hown : s.vm.findClass R_La = some m.cls := findClass_of_methodNamed B.named
  have hlocks := B.notSynchronized
  subst hsz
  have hD := hD0.self (sz := s.heap.size)
  generalize hAe : va_A [(ou, .inl (cJ, 1, .inr (.inl o))), (x, .inr (1, fs)), (a2, w2)] s.heap.size = A at hD hE ⊢
  have hA : ∀ q : Nat, s.heap.size ≤ q → A q := fun q h => by rw [← hAe]; exact Or.inr h
  have hS : va_S A s.heap s.heap [] := va_S.rf
  have hl := lv_entry ([.ref x, .int (v0), .int (v1), .ref ou]) (n := 5) (Nat.le_of_ble_eq_true rfl)
  rw [lg_entry_eq]
  generalize (lg_sl ([.ref x, .int (v0), .int (v1), .ref ou]) ++ List.replicate (5 - (lg_sl ([.ref x, .int (v0), .int (v1), .ref ou])).length) Slot.unset).toArray = ls at hl ⊢
  have hl : lv_has ls 5 [(0, .ref x), (1, .int (v0)), (2, .int (v1)), (3, .ref ou)] := hl
  refine lv_aload_n hx hb d_La_put_0 rfl (lv_at hl 3 rfl) ?_
  refine lv_iconst (v := iI 0) hx hb d_La_put_1 rfl ?_
  refine lv_aload_n hx hb d_La_put_2 rfl (lv_at hl 0 rfl) ?_
  refine lv_iload_n hx hb d_La_put_3 rfl (lv_at hl 1 rfl) ?_
  refine lv_iload_n hx hb d_La_put_4 rfl (lv_at hl 2 rfl) ?_
  refine c_fi (wc := [(x, .inr (1, fs)), (a2, w2)]) (wr := [(ou, .inl (cJ, 1, .inr (.inl o)))]) (va_runV (C := "ExactDigits") (As := [.int (v0), .int (v1)]) (rest := [.int (iI (0)), .ref ou]) ⟨hx, hb, hml, hown, hts⟩ (hM s.heap.size) (cwV 2 hts (gV tw_277 tw_278 tw_279 tw_1 tw_280) rfl rfl rfl (by decide +kernel) ⟨Nat.le_of_ble_eq_true rfl, Nat.le_of_ble_eq_true rfl⟩) ⟨c_blind (eX_X t5 ad), va_recv (ci := 1) (q0 := 1) hK hP rfl rfl, fun U hU hW => c_pre (wc := [(x, .inr (1, fs)), (a2, w2)]) (eX_X t5 ad) hE hK hP hD hS hA [1, 2] rfl (by decide) U hU hW⟩ rfl rfl hl.1 rfl (lv_room (Nat.le_of_ble_eq_true rfl)) d_La_put_5 ⟨Nat.le_of_ble_eq_true rfl, Nat.le_of_ble_eq_true rfl⟩) hP hD hS hA [1, 2] [0] rfl rfl (by decide) (by decide) (fun r u H locs hp hP hD hS => ?_)
  have hP : va_P D ecl ((ou, .inl (cJ, 1, .inr (.inl o))) :: u) H := hP
  have hD : va_D A ((ou, .inl (cJ, 1, .inr (.inl o))) :: u) := hD
  refine lv_i2l hx hb d_La_put_8 rfl ?_
  refine ed_last0 hx hb hK hP hD hS 0 2 rfl rfl d_La_put_9 (fun H locs o' ho hP hD hS => ?_)
  have hP : va_P D ecl ((ou, .inl (cJ, 1, .inr (.inl o'))) :: u) H := hP
  have hD : va_D A ((ou, .inl (cJ, 1, .inr (.inl o'))) :: u) := hD
  refine lv_goto (tgt := 17) hx hb d_La_put_10 rfl ?_
  refine lv_iconst (v := iI 0) hx hb d_La_put_17 rfl ?_
  exact W.iret (v := iI 0) hx hb hr (fun t9 ht9 hW9 => ⟨⟨iI 0, (ou, .inl (cJ, 1, .inr (.inl o'))) :: u, rfl, ⟨rfl, r, u, o', hp, ho, rfl⟩, by rw [ht9]; exact hP, hD⟩, hS.F ht9⟩) hS.2.2 d_La_put_18
set_option maxHeartbeats 4000000 in
set_option maxRecDepth 100000 in
theorem c_La_put_no (l : Launch) (D : va_G) (cB cI cJ : ClassId) (t5 : Nat) (ad : Nat → Nat) (ou : Nat) (o : Nat → Int64) {x : Nat} {v0 : Int32} {v1 : Int32} {fs : List Value} {a2 : Nat} {w2 : va_E} (hM : c_T l m_Ed_put (Cond.code m_Ed_put b_Ed_put 4 (some .int) :: gw) (rmx_ 6 90) (eX t5 ad) D ecl (tyS cB cI cJ) [.ref x, .int (v0), .int (v1)] [(x, .inr (1, fs)), (a2, w2)] xIA) : c_I l m_La_put (Cond.codeWith m_La_put b_La_put 5 (some .int) [(0, 10, 13, 22)] :: gw) (rmx_ 7 113) (eX t5 ad) D ecl (tyS cB cI cJ) [.ref x, .int (v0), .int (v1), .ref ou] [(ou, .inl (cJ, 1, .inr (.inl o))), (x, .inr (1, fs)), (a2, w2)] (fun r u => r = iI 1 ∧ u = [(ou, .inl (cJ, 1, .inr (.inl o))), (x, .inr (1, fs)), (a2, w2)]) 1 6 := by
  intro sz0
  refine va_MetW (cc := b_La_put) (maxL := 5) (ret := some .int) (hh := [(0, 10, 13, 22)]) (by decide) rfl ?_
  intro p e s m args below meth c s₁ B hml hv
  obtain ⟨rfl, hsz, hP, hK, hD0, hE⟩ := hv
  have hx := B.exec
  have hb := B.bytes
  have hr := B.returns
  have hts := atoms_spec (ws := Cond.codeWith m_La_put b_La_put 5 (some .int) [(0, 10, 13, 22)] :: gw) B.pre
  have hown : s.vm.findClass R_La = some m.cls := findClass_of_methodNamed B.named
  have hlocks := B.notSynchronized
  subst hsz
  have hD := hD0.self (sz := s.heap.size)
  generalize hAe : va_A [(ou, .inl (cJ, 1, .inr (.inl o))), (x, .inr (1, fs)), (a2, w2)] s.heap.size = A at hD hE ⊢
  have hA : ∀ q : Nat, s.heap.size ≤ q → A q := fun q h => by rw [← hAe]; exact Or.inr h
  have hS : va_S A s.heap s.heap [] := va_S.rf
  have hl := lv_entry ([.ref x, .int (v0), .int (v1), .ref ou]) (n := 5) (Nat.le_of_ble_eq_true rfl)
  rw [lg_entry_eq]
  generalize (lg_sl ([.ref x, .int (v0), .int (v1), .ref ou]) ++ List.replicate (5 - (lg_sl ([.ref x, .int (v0), .int (v1), .ref ou])).length) Slot.unset).toArray = ls at hl ⊢
  have hl : lv_has ls 5 [(0, .ref x), (1, .int (v0)), (2, .int (v1)), (3, .ref ou)] := hl
  refine lv_aload_n hx hb d_La_put_0 rfl (lv_at hl 3 rfl) ?_
  refine lv_iconst (v := iI 0) hx hb d_La_put_1 rfl ?_
  refine lv_aload_n hx hb d_La_put_2 rfl (lv_at hl 0 rfl) ?_
  refine lv_iload_n hx hb d_La_put_3 rfl (lv_at hl 1 rfl) ?_
  refine lv_iload_n hx hb d_La_put_4 rfl (lv_at hl 2 rfl) ?_
  refine c_ft (wc := [(x, .inr (1, fs)), (a2, w2)]) (wr := [(ou, .inl (cJ, 1, .inr (.inl o)))]) (vx_runV (C := "ExactDigits") (As := [.int (v0), .int (v1)]) (rest := [.int (iI (0)), .ref ou]) ⟨hx, hb, hml, hown, hts⟩ (hM s.heap.size) (cwV 2 hts (gV tw_277 tw_278 tw_279 tw_1 tw_280) rfl rfl rfl (by decide +kernel) ⟨Nat.le_of_ble_eq_true rfl, Nat.le_of_ble_eq_true rfl⟩) ⟨c_blind (eX_X t5 ad), va_recv (ci := 1) (q0 := 1) hK hP rfl rfl, fun U hU hW => c_pre (wc := [(x, .inr (1, fs)), (a2, w2)]) (eX_X t5 ad) hE hK hP hD hS hA [1, 2] rfl (by decide) U hU hW⟩ rfl rfl hl.1 rfl (lv_room (Nat.le_of_ble_eq_true rfl)) d_La_put_5 ⟨Nat.le_of_ble_eq_true rfl, Nat.le_of_ble_eq_true rfl⟩) hP hD hS hA [1, 2] [0] rfl rfl (by decide) (by decide) (fun ce q9 H locs hP hD hS h9 hv9 hc9 => ?_)
  refine vx_catch (name := xIA) hown [] { startPc := 0, endPc := 10, handlerPc := 13, catchType := 22 } [] ((vx_table (x := m_La_put) B (hts _ List.mem_cons_self)).trans rfl) (fun z hz => absurd hz List.not_mem_nil) (by decide) (by decide) (hts _ (List.mem_cons_of_mem _ tw_276)) (va_Nw.use rfl hE.2.2.2.2.2.2.2.2.2.2.2.1) h9 hv9 hc9 ?_
  refine ed_pc (pc' := 13) rfl ?_
  have hP : va_P D ecl [(ou, .inl (cJ, 1, .inr (.inl o))), (x, .inr (1, fs)), (a2, w2)] H := hP
  have hD : va_D A [(ou, .inl (cJ, 1, .inr (.inl o))), (x, .inr (1, fs)), (a2, w2)] := hD
  refine lv_astore hx hb d_La_put_13 hl (by decide) rfl (fun ls hl => ?_)
  have hl : lv_has ls 5 [(4, .ref q9), (0, .ref x), (1, .int (v0)), (2, .int (v1)), (3, .ref ou)] := hl
  refine lv_iconst (v := iI 1) hx hb d_La_put_15 rfl ?_
  exact W.iret (v := (iI (1))) hx hb hr (fun t9 ht9 hW9 => ⟨⟨(iI (1)), [(ou, .inl (cJ, 1, .inr (.inl o))), (x, .inr (1, fs)), (a2, w2)], rfl, ⟨rfl, rfl⟩, by rw [ht9]; exact hP, hD⟩, hS.F ht9⟩) hS.2.2 d_La_put_16
set_option maxHeartbeats 4000000 in
set_option maxRecDepth 100000 in
theorem c_La_shift (l : Launch) (D : va_G) (cB cI cJ : ClassId) (t5 : Nat) (ad : Nat → Nat) (ou : Nat) (o : Nat → Int64) {x : Nat} {v0 : Int32} {fs : List Value} {a2 : Nat} {w2 : va_E} {a3 : Nat} {w3 : va_E} {a4 : Nat} {w4 : va_E} {P : Int32 → va_W → Prop} (hM : c_I l m_Ed_shift (Cond.code m_Ed_shift b_Ed_shift 4 (some .int) :: gw) (rm_ 6 93) (eX t5 ad) D ecl (tyS cB cI cJ) [.ref x, .int (v0)] [(x, .inr (1, fs)), (a2, w2), (a3, w3), (a4, w4)] P 0 0) : c_I l m_La_shift (Cond.codeWith m_La_shift b_La_shift 4 (some .int) [(0, 9, 12, 22)] :: gw) (rm_ 7 116) (eX t5 ad) D ecl (tyS cB cI cJ) [.ref x, .int (v0), .ref ou] [(ou, .inl (cJ, 1, .inr (.inl o))), (x, .inr (1, fs)), (a2, w2), (a3, w3), (a4, w4)] (fun r u => r = iI 0 ∧ ∃ (r0 : Int32) (u0 : va_W) (o' : Nat → Int64), P r0 u0 ∧ o' 0 = r0.toInt64 ∧ u = (ou, .inl (cJ, 1, .inr (.inl o'))) :: u0) 0 0 := by
  intro sz0
  refine va_MetW (cc := b_La_shift) (maxL := 4) (ret := some .int) (hh := [(0, 9, 12, 22)]) (by decide) rfl ?_
  intro p e s m args below meth c s₁ B hml hv
  obtain ⟨rfl, hsz, hP, hK, hD0, hE⟩ := hv
  have hx := B.exec
  have hb := B.bytes
  have hr := B.returns
  have hts := atoms_spec (ws := Cond.codeWith m_La_shift b_La_shift 4 (some .int) [(0, 9, 12, 22)] :: gw) B.pre
  have hown : s.vm.findClass R_La = some m.cls := findClass_of_methodNamed B.named
  have hlocks := B.notSynchronized
  subst hsz
  have hD := hD0.self (sz := s.heap.size)
  generalize hAe : va_A [(ou, .inl (cJ, 1, .inr (.inl o))), (x, .inr (1, fs)), (a2, w2), (a3, w3), (a4, w4)] s.heap.size = A at hD hE ⊢
  have hA : ∀ q : Nat, s.heap.size ≤ q → A q := fun q h => by rw [← hAe]; exact Or.inr h
  have hS : va_S A s.heap s.heap [] := va_S.rf
  have hl := lv_entry ([.ref x, .int (v0), .ref ou]) (n := 4) (Nat.le_of_ble_eq_true rfl)
  rw [lg_entry_eq]
  generalize (lg_sl ([.ref x, .int (v0), .ref ou]) ++ List.replicate (4 - (lg_sl ([.ref x, .int (v0), .ref ou])).length) Slot.unset).toArray = ls at hl ⊢
  have hl : lv_has ls 4 [(0, .ref x), (1, .int (v0)), (2, .ref ou)] := hl
  refine lv_aload_n hx hb d_La_shift_0 rfl (lv_at hl 2 rfl) ?_
  refine lv_iconst (v := iI 0) hx hb d_La_shift_1 rfl ?_
  refine lv_aload_n hx hb d_La_shift_2 rfl (lv_at hl 0 rfl) ?_
  refine lv_iload_n hx hb d_La_shift_3 rfl (lv_at hl 1 rfl) ?_
  refine c_fi (wc := [(x, .inr (1, fs)), (a2, w2), (a3, w3), (a4, w4)]) (wr := [(ou, .inl (cJ, 1, .inr (.inl o)))]) (va_runV (C := "ExactDigits") (As := [.int (v0)]) (rest := [.int (iI (0)), .ref ou]) ⟨hx, hb, hml, hown, hts⟩ (hM s.heap.size) (cwV 1 hts (gV tw_306 tw_307 tw_308 tw_1 tw_309) rfl rfl rfl (by decide +kernel) ⟨Nat.le_of_ble_eq_true rfl, Nat.le_of_ble_eq_true rfl⟩) ⟨c_blind (eX_X t5 ad), va_recv (ci := 1) (q0 := 1) hK hP rfl rfl, fun U hU hW => c_pre (wc := [(x, .inr (1, fs)), (a2, w2), (a3, w3), (a4, w4)]) (eX_X t5 ad) hE hK hP hD hS hA [1, 2, 3, 4] rfl (by decide) U hU hW⟩ rfl rfl hl.1 rfl (lv_room (Nat.le_of_ble_eq_true rfl)) d_La_shift_4 ⟨Nat.le_of_ble_eq_true rfl, Nat.le_of_ble_eq_true rfl⟩) hP hD hS hA [1, 2, 3, 4] [0] rfl rfl (by decide) (by decide) (fun r u H locs hp hP hD hS => ?_)
  have hP : va_P D ecl ((ou, .inl (cJ, 1, .inr (.inl o))) :: u) H := hP
  have hD : va_D A ((ou, .inl (cJ, 1, .inr (.inl o))) :: u) := hD
  refine lv_i2l hx hb d_La_shift_7 rfl ?_
  refine ed_last0 hx hb hK hP hD hS 0 2 rfl rfl d_La_shift_8 (fun H locs o' ho hP hD hS => ?_)
  have hP : va_P D ecl ((ou, .inl (cJ, 1, .inr (.inl o'))) :: u) H := hP
  have hD : va_D A ((ou, .inl (cJ, 1, .inr (.inl o'))) :: u) := hD
  refine lv_goto (tgt := 15) hx hb d_La_shift_9 rfl ?_
  refine lv_iconst (v := iI 0) hx hb d_La_shift_15 rfl ?_
  exact W.iret (v := iI 0) hx hb hr (fun t9 ht9 hW9 => ⟨⟨iI 0, (ou, .inl (cJ, 1, .inr (.inl o'))) :: u, rfl, ⟨rfl, r, u, o', hp, ho, rfl⟩, by rw [ht9]; exact hP, hD⟩, hS.F ht9⟩) hS.2.2 d_La_shift_16
set_option maxHeartbeats 4000000 in
set_option maxRecDepth 100000 in
theorem c_La_shift_no (l : Launch) (D : va_G) (cB cI cJ : ClassId) (t5 : Nat) (ad : Nat → Nat) (ou : Nat) (o : Nat → Int64) {x : Nat} {v0 : Int32} {fs : List Value} {a2 : Nat} {w2 : va_E} (hM : c_T l m_Ed_shift (Cond.code m_Ed_shift b_Ed_shift 4 (some .int) :: gw) (rmx_ 6 93) (eX t5 ad) D ecl (tyS cB cI cJ) [.ref x, .int (v0)] [(x, .inr (1, fs)), (a2, w2)] xIA) : c_I l m_La_shift (Cond.codeWith m_La_shift b_La_shift 4 (some .int) [(0, 9, 12, 22)] :: gw) (rmx_ 7 116) (eX t5 ad) D ecl (tyS cB cI cJ) [.ref x, .int (v0), .ref ou] [(ou, .inl (cJ, 1, .inr (.inl o))), (x, .inr (1, fs)), (a2, w2)] (fun r u => r = iI 1 ∧ u = [(ou, .inl (cJ, 1, .inr (.inl o))), (x, .inr (1, fs)), (a2, w2)]) 1 6 := by
  intro sz0
  refine va_MetW (cc := b_La_shift) (maxL := 4) (ret := some .int) (hh := [(0, 9, 12, 22)]) (by decide) rfl ?_
  intro p e s m args below meth c s₁ B hml hv
  obtain ⟨rfl, hsz, hP, hK, hD0, hE⟩ := hv
  have hx := B.exec
  have hb := B.bytes
  have hr := B.returns
  have hts := atoms_spec (ws := Cond.codeWith m_La_shift b_La_shift 4 (some .int) [(0, 9, 12, 22)] :: gw) B.pre
  have hown : s.vm.findClass R_La = some m.cls := findClass_of_methodNamed B.named
  have hlocks := B.notSynchronized
  subst hsz
  have hD := hD0.self (sz := s.heap.size)
  generalize hAe : va_A [(ou, .inl (cJ, 1, .inr (.inl o))), (x, .inr (1, fs)), (a2, w2)] s.heap.size = A at hD hE ⊢
  have hA : ∀ q : Nat, s.heap.size ≤ q → A q := fun q h => by rw [← hAe]; exact Or.inr h
  have hS : va_S A s.heap s.heap [] := va_S.rf
  have hl := lv_entry ([.ref x, .int (v0), .ref ou]) (n := 4) (Nat.le_of_ble_eq_true rfl)
  rw [lg_entry_eq]
  generalize (lg_sl ([.ref x, .int (v0), .ref ou]) ++ List.replicate (4 - (lg_sl ([.ref x, .int (v0), .ref ou])).length) Slot.unset).toArray = ls at hl ⊢
  have hl : lv_has ls 4 [(0, .ref x), (1, .int (v0)), (2, .ref ou)] := hl
  refine lv_aload_n hx hb d_La_shift_0 rfl (lv_at hl 2 rfl) ?_
  refine lv_iconst (v := iI 0) hx hb d_La_shift_1 rfl ?_
  refine lv_aload_n hx hb d_La_shift_2 rfl (lv_at hl 0 rfl) ?_
  refine lv_iload_n hx hb d_La_shift_3 rfl (lv_at hl 1 rfl) ?_
  refine c_ft (wc := [(x, .inr (1, fs)), (a2, w2)]) (wr := [(ou, .inl (cJ, 1, .inr (.inl o)))]) (vx_runV (C := "ExactDigits") (As := [.int (v0)]) (rest := [.int (iI (0)), .ref ou]) ⟨hx, hb, hml, hown, hts⟩ (hM s.heap.size) (cwV 1 hts (gV tw_306 tw_307 tw_308 tw_1 tw_309) rfl rfl rfl (by decide +kernel) ⟨Nat.le_of_ble_eq_true rfl, Nat.le_of_ble_eq_true rfl⟩) ⟨c_blind (eX_X t5 ad), va_recv (ci := 1) (q0 := 1) hK hP rfl rfl, fun U hU hW => c_pre (wc := [(x, .inr (1, fs)), (a2, w2)]) (eX_X t5 ad) hE hK hP hD hS hA [1, 2] rfl (by decide) U hU hW⟩ rfl rfl hl.1 rfl (lv_room (Nat.le_of_ble_eq_true rfl)) d_La_shift_4 ⟨Nat.le_of_ble_eq_true rfl, Nat.le_of_ble_eq_true rfl⟩) hP hD hS hA [1, 2] [0] rfl rfl (by decide) (by decide) (fun ce q9 H locs hP hD hS h9 hv9 hc9 => ?_)
  refine vx_catch (name := xIA) hown [] { startPc := 0, endPc := 9, handlerPc := 12, catchType := 22 } [] ((vx_table (x := m_La_shift) B (hts _ List.mem_cons_self)).trans rfl) (fun z hz => absurd hz List.not_mem_nil) (by decide) (by decide) (hts _ (List.mem_cons_of_mem _ tw_276)) (va_Nw.use rfl hE.2.2.2.2.2.2.2.2.2.2.2.1) h9 hv9 hc9 ?_
  refine ed_pc (pc' := 12) rfl ?_
  have hP : va_P D ecl [(ou, .inl (cJ, 1, .inr (.inl o))), (x, .inr (1, fs)), (a2, w2)] H := hP
  have hD : va_D A [(ou, .inl (cJ, 1, .inr (.inl o))), (x, .inr (1, fs)), (a2, w2)] := hD
  refine lv_astore_n hx hb d_La_shift_12 rfl hl (by decide) rfl (fun ls hl => ?_)
  have hl : lv_has ls 4 [(3, .ref q9), (0, .ref x), (1, .int (v0)), (2, .ref ou)] := hl
  refine lv_iconst (v := iI 1) hx hb d_La_shift_13 rfl ?_
  exact W.iret (v := (iI (1))) hx hb hr (fun t9 ht9 hW9 => ⟨⟨(iI (1)), [(ou, .inl (cJ, 1, .inr (.inl o))), (x, .inr (1, fs)), (a2, w2)], rfl, ⟨rfl, rfl⟩, by rw [ht9]; exact hP, hD⟩, hS.F ht9⟩) hS.2.2 d_La_shift_14
set_option maxHeartbeats 4000000 in
set_option maxRecDepth 100000 in
theorem c_La_move (l : Launch) (D : va_G) (cB cI cJ : ClassId) (t5 : Nat) (ad : Nat → Nat) (ou : Nat) (o : Nat → Int64) {x : Nat} {v0 : Int32} {fs : List Value} {a2 : Nat} {w2 : va_E} {P : Int32 → va_W → Prop} (hM : c_I l m_Ed_move (Cond.code m_Ed_move b_Ed_move 3 (some .int) :: gw) (rm_ 6 90) (eX t5 ad) D ecl (tyS cB cI cJ) [.ref x, .int (v0)] [(x, .inr (1, fs)), (a2, w2)] P 0 0) : c_I l m_La_move (Cond.codeWith m_La_move b_La_move 4 (some .int) [(0, 9, 12, 22)] :: gw) (rm_ 7 112) (eX t5 ad) D ecl (tyS cB cI cJ) [.ref x, .int (v0), .ref ou] [(ou, .inl (cJ, 1, .inr (.inl o))), (x, .inr (1, fs)), (a2, w2)] (fun r u => r = iI 0 ∧ ∃ (r0 : Int32) (u0 : va_W) (o' : Nat → Int64), P r0 u0 ∧ o' 0 = r0.toInt64 ∧ u = (ou, .inl (cJ, 1, .inr (.inl o'))) :: u0) 0 0 := by
  intro sz0
  refine va_MetW (cc := b_La_move) (maxL := 4) (ret := some .int) (hh := [(0, 9, 12, 22)]) (by decide) rfl ?_
  intro p e s m args below meth c s₁ B hml hv
  obtain ⟨rfl, hsz, hP, hK, hD0, hE⟩ := hv
  have hx := B.exec
  have hb := B.bytes
  have hr := B.returns
  have hts := atoms_spec (ws := Cond.codeWith m_La_move b_La_move 4 (some .int) [(0, 9, 12, 22)] :: gw) B.pre
  have hown : s.vm.findClass R_La = some m.cls := findClass_of_methodNamed B.named
  have hlocks := B.notSynchronized
  subst hsz
  have hD := hD0.self (sz := s.heap.size)
  generalize hAe : va_A [(ou, .inl (cJ, 1, .inr (.inl o))), (x, .inr (1, fs)), (a2, w2)] s.heap.size = A at hD hE ⊢
  have hA : ∀ q : Nat, s.heap.size ≤ q → A q := fun q h => by rw [← hAe]; exact Or.inr h
  have hS : va_S A s.heap s.heap [] := va_S.rf
  have hl := lv_entry ([.ref x, .int (v0), .ref ou]) (n := 4) (Nat.le_of_ble_eq_true rfl)
  rw [lg_entry_eq]
  generalize (lg_sl ([.ref x, .int (v0), .ref ou]) ++ List.replicate (4 - (lg_sl ([.ref x, .int (v0), .ref ou])).length) Slot.unset).toArray = ls at hl ⊢
  have hl : lv_has ls 4 [(0, .ref x), (1, .int (v0)), (2, .ref ou)] := hl
  refine lv_aload_n hx hb d_La_move_0 rfl (lv_at hl 2 rfl) ?_
  refine lv_iconst (v := iI 0) hx hb d_La_move_1 rfl ?_
  refine lv_aload_n hx hb d_La_move_2 rfl (lv_at hl 0 rfl) ?_
  refine lv_iload_n hx hb d_La_move_3 rfl (lv_at hl 1 rfl) ?_
  refine c_fi (wc := [(x, .inr (1, fs)), (a2, w2)]) (wr := [(ou, .inl (cJ, 1, .inr (.inl o)))]) (va_runV (C := "ExactDigits") (As := [.int (v0)]) (rest := [.int (iI (0)), .ref ou]) ⟨hx, hb, hml, hown, hts⟩ (hM s.heap.size) (cwV 1 hts (gV tw_313 tw_314 tw_315 tw_1 tw_316) rfl rfl rfl (by decide +kernel) ⟨Nat.le_of_ble_eq_true rfl, Nat.le_of_ble_eq_true rfl⟩) ⟨c_blind (eX_X t5 ad), va_recv (ci := 1) (q0 := 1) hK hP rfl rfl, fun U hU hW => c_pre (wc := [(x, .inr (1, fs)), (a2, w2)]) (eX_X t5 ad) hE hK hP hD hS hA [1, 2] rfl (by decide) U hU hW⟩ rfl rfl hl.1 rfl (lv_room (Nat.le_of_ble_eq_true rfl)) d_La_move_4 ⟨Nat.le_of_ble_eq_true rfl, Nat.le_of_ble_eq_true rfl⟩) hP hD hS hA [1, 2] [0] rfl rfl (by decide) (by decide) (fun r u H locs hp hP hD hS => ?_)
  have hP : va_P D ecl ((ou, .inl (cJ, 1, .inr (.inl o))) :: u) H := hP
  have hD : va_D A ((ou, .inl (cJ, 1, .inr (.inl o))) :: u) := hD
  refine lv_i2l hx hb d_La_move_7 rfl ?_
  refine ed_last0 hx hb hK hP hD hS 0 2 rfl rfl d_La_move_8 (fun H locs o' ho hP hD hS => ?_)
  have hP : va_P D ecl ((ou, .inl (cJ, 1, .inr (.inl o'))) :: u) H := hP
  have hD : va_D A ((ou, .inl (cJ, 1, .inr (.inl o'))) :: u) := hD
  refine lv_goto (tgt := 15) hx hb d_La_move_9 rfl ?_
  refine lv_iconst (v := iI 0) hx hb d_La_move_15 rfl ?_
  exact W.iret (v := iI 0) hx hb hr (fun t9 ht9 hW9 => ⟨⟨iI 0, (ou, .inl (cJ, 1, .inr (.inl o'))) :: u, rfl, ⟨rfl, r, u, o', hp, ho, rfl⟩, by rw [ht9]; exact hP, hD⟩, hS.F ht9⟩) hS.2.2 d_La_move_16
set_option maxHeartbeats 4000000 in
set_option maxRecDepth 100000 in
theorem c_La_move_no (l : Launch) (D : va_G) (cB cI cJ : ClassId) (t5 : Nat) (ad : Nat → Nat) (ou : Nat) (o : Nat → Int64) {x : Nat} {v0 : Int32} {fs : List Value} {a2 : Nat} {w2 : va_E} (hM : c_T l m_Ed_move (Cond.code m_Ed_move b_Ed_move 3 (some .int) :: gw) (rmx_ 6 90) (eX t5 ad) D ecl (tyS cB cI cJ) [.ref x, .int (v0)] [(x, .inr (1, fs)), (a2, w2)] xIA) : c_I l m_La_move (Cond.codeWith m_La_move b_La_move 4 (some .int) [(0, 9, 12, 22)] :: gw) (rmx_ 7 112) (eX t5 ad) D ecl (tyS cB cI cJ) [.ref x, .int (v0), .ref ou] [(ou, .inl (cJ, 1, .inr (.inl o))), (x, .inr (1, fs)), (a2, w2)] (fun r u => r = iI 1 ∧ u = [(ou, .inl (cJ, 1, .inr (.inl o))), (x, .inr (1, fs)), (a2, w2)]) 1 6 := by
  intro sz0
  refine va_MetW (cc := b_La_move) (maxL := 4) (ret := some .int) (hh := [(0, 9, 12, 22)]) (by decide) rfl ?_
  intro p e s m args below meth c s₁ B hml hv
  obtain ⟨rfl, hsz, hP, hK, hD0, hE⟩ := hv
  have hx := B.exec
  have hb := B.bytes
  have hr := B.returns
  have hts := atoms_spec (ws := Cond.codeWith m_La_move b_La_move 4 (some .int) [(0, 9, 12, 22)] :: gw) B.pre
  have hown : s.vm.findClass R_La = some m.cls := findClass_of_methodNamed B.named
  have hlocks := B.notSynchronized
  subst hsz
  have hD := hD0.self (sz := s.heap.size)
  generalize hAe : va_A [(ou, .inl (cJ, 1, .inr (.inl o))), (x, .inr (1, fs)), (a2, w2)] s.heap.size = A at hD hE ⊢
  have hA : ∀ q : Nat, s.heap.size ≤ q → A q := fun q h => by rw [← hAe]; exact Or.inr h
  have hS : va_S A s.heap s.heap [] := va_S.rf
  have hl := lv_entry ([.ref x, .int (v0), .ref ou]) (n := 4) (Nat.le_of_ble_eq_true rfl)
  rw [lg_entry_eq]
  generalize (lg_sl ([.ref x, .int (v0), .ref ou]) ++ List.replicate (4 - (lg_sl ([.ref x, .int (v0), .ref ou])).length) Slot.unset).toArray = ls at hl ⊢
  have hl : lv_has ls 4 [(0, .ref x), (1, .int (v0)), (2, .ref ou)] := hl
  refine lv_aload_n hx hb d_La_move_0 rfl (lv_at hl 2 rfl) ?_
  refine lv_iconst (v := iI 0) hx hb d_La_move_1 rfl ?_
  refine lv_aload_n hx hb d_La_move_2 rfl (lv_at hl 0 rfl) ?_
  refine lv_iload_n hx hb d_La_move_3 rfl (lv_at hl 1 rfl) ?_
  refine c_ft (wc := [(x, .inr (1, fs)), (a2, w2)]) (wr := [(ou, .inl (cJ, 1, .inr (.inl o)))]) (vx_runV (C := "ExactDigits") (As := [.int (v0)]) (rest := [.int (iI (0)), .ref ou]) ⟨hx, hb, hml, hown, hts⟩ (hM s.heap.size) (cwV 1 hts (gV tw_313 tw_314 tw_315 tw_1 tw_316) rfl rfl rfl (by decide +kernel) ⟨Nat.le_of_ble_eq_true rfl, Nat.le_of_ble_eq_true rfl⟩) ⟨c_blind (eX_X t5 ad), va_recv (ci := 1) (q0 := 1) hK hP rfl rfl, fun U hU hW => c_pre (wc := [(x, .inr (1, fs)), (a2, w2)]) (eX_X t5 ad) hE hK hP hD hS hA [1, 2] rfl (by decide) U hU hW⟩ rfl rfl hl.1 rfl (lv_room (Nat.le_of_ble_eq_true rfl)) d_La_move_4 ⟨Nat.le_of_ble_eq_true rfl, Nat.le_of_ble_eq_true rfl⟩) hP hD hS hA [1, 2] [0] rfl rfl (by decide) (by decide) (fun ce q9 H locs hP hD hS h9 hv9 hc9 => ?_)
  refine vx_catch (name := xIA) hown [] { startPc := 0, endPc := 9, handlerPc := 12, catchType := 22 } [] ((vx_table (x := m_La_move) B (hts _ List.mem_cons_self)).trans rfl) (fun z hz => absurd hz List.not_mem_nil) (by decide) (by decide) (hts _ (List.mem_cons_of_mem _ tw_276)) (va_Nw.use rfl hE.2.2.2.2.2.2.2.2.2.2.2.1) h9 hv9 hc9 ?_
  refine ed_pc (pc' := 12) rfl ?_
  have hP : va_P D ecl [(ou, .inl (cJ, 1, .inr (.inl o))), (x, .inr (1, fs)), (a2, w2)] H := hP
  have hD : va_D A [(ou, .inl (cJ, 1, .inr (.inl o))), (x, .inr (1, fs)), (a2, w2)] := hD
  refine lv_astore_n hx hb d_La_move_12 rfl hl (by decide) rfl (fun ls hl => ?_)
  have hl : lv_has ls 4 [(3, .ref q9), (0, .ref x), (1, .int (v0)), (2, .ref ou)] := hl
  refine lv_iconst (v := iI 1) hx hb d_La_move_13 rfl ?_
  exact W.iret (v := (iI (1))) hx hb hr (fun t9 ht9 hW9 => ⟨⟨(iI (1)), [(ou, .inl (cJ, 1, .inr (.inl o))), (x, .inr (1, fs)), (a2, w2)], rfl, ⟨rfl, rfl⟩, by rw [ht9]; exact hP, hD⟩, hS.F ht9⟩) hS.2.2 d_La_move_14
set_option maxHeartbeats 4000000 in
set_option maxRecDepth 100000 in
theorem c_La_round (l : Launch) (D : va_G) (cB cI cJ : ClassId) (t5 : Nat) (ad : Nat → Nat) (ou : Nat) (o : Nat → Int64) {x : Nat} {v0 : Int32} {fs : List Value} {a2 : Nat} {w2 : va_E} {P : Int32 → va_W → Prop} (hM : c_I l m_Ed_round (Cond.code m_Ed_round b_Ed_round 3 (some .int) :: gw) (rm_ 6 90) (eX t5 ad) D ecl (tyS cB cI cJ) [.ref x, .int (v0)] [(x, .inr (1, fs)), (a2, w2)] P 0 0) : c_I l m_La_round (Cond.codeWith m_La_round b_La_round 4 (some .int) [(0, 9, 12, 22)] :: gw) (rm_ 7 112) (eX t5 ad) D ecl (tyS cB cI cJ) [.ref x, .int (v0), .ref ou] [(ou, .inl (cJ, 1, .inr (.inl o))), (x, .inr (1, fs)), (a2, w2)] (fun r u => r = iI 0 ∧ ∃ (r0 : Int32) (u0 : va_W) (o' : Nat → Int64), P r0 u0 ∧ o' 0 = r0.toInt64 ∧ u = (ou, .inl (cJ, 1, .inr (.inl o'))) :: u0) 0 0 := by
  intro sz0
  refine va_MetW (cc := b_La_round) (maxL := 4) (ret := some .int) (hh := [(0, 9, 12, 22)]) (by decide) rfl ?_
  intro p e s m args below meth c s₁ B hml hv
  obtain ⟨rfl, hsz, hP, hK, hD0, hE⟩ := hv
  have hx := B.exec
  have hb := B.bytes
  have hr := B.returns
  have hts := atoms_spec (ws := Cond.codeWith m_La_round b_La_round 4 (some .int) [(0, 9, 12, 22)] :: gw) B.pre
  have hown : s.vm.findClass R_La = some m.cls := findClass_of_methodNamed B.named
  have hlocks := B.notSynchronized
  subst hsz
  have hD := hD0.self (sz := s.heap.size)
  generalize hAe : va_A [(ou, .inl (cJ, 1, .inr (.inl o))), (x, .inr (1, fs)), (a2, w2)] s.heap.size = A at hD hE ⊢
  have hA : ∀ q : Nat, s.heap.size ≤ q → A q := fun q h => by rw [← hAe]; exact Or.inr h
  have hS : va_S A s.heap s.heap [] := va_S.rf
  have hl := lv_entry ([.ref x, .int (v0), .ref ou]) (n := 4) (Nat.le_of_ble_eq_true rfl)
  rw [lg_entry_eq]
  generalize (lg_sl ([.ref x, .int (v0), .ref ou]) ++ List.replicate (4 - (lg_sl ([.ref x, .int (v0), .ref ou])).length) Slot.unset).toArray = ls at hl ⊢
  have hl : lv_has ls 4 [(0, .ref x), (1, .int (v0)), (2, .ref ou)] := hl
  refine lv_aload_n hx hb d_La_round_0 rfl (lv_at hl 2 rfl) ?_
  refine lv_iconst (v := iI 0) hx hb d_La_round_1 rfl ?_
  refine lv_aload_n hx hb d_La_round_2 rfl (lv_at hl 0 rfl) ?_
  refine lv_iload_n hx hb d_La_round_3 rfl (lv_at hl 1 rfl) ?_
  refine c_fi (wc := [(x, .inr (1, fs)), (a2, w2)]) (wr := [(ou, .inl (cJ, 1, .inr (.inl o)))]) (va_runV (C := "ExactDigits") (As := [.int (v0)]) (rest := [.int (iI (0)), .ref ou]) ⟨hx, hb, hml, hown, hts⟩ (hM s.heap.size) (cwV 1 hts (gV tw_320 tw_321 tw_322 tw_1 tw_323) rfl rfl rfl (by decide +kernel) ⟨Nat.le_of_ble_eq_true rfl, Nat.le_of_ble_eq_true rfl⟩) ⟨c_blind (eX_X t5 ad), va_recv (ci := 1) (q0 := 1) hK hP rfl rfl, fun U hU hW => c_pre (wc := [(x, .inr (1, fs)), (a2, w2)]) (eX_X t5 ad) hE hK hP hD hS hA [1, 2] rfl (by decide) U hU hW⟩ rfl rfl hl.1 rfl (lv_room (Nat.le_of_ble_eq_true rfl)) d_La_round_4 ⟨Nat.le_of_ble_eq_true rfl, Nat.le_of_ble_eq_true rfl⟩) hP hD hS hA [1, 2] [0] rfl rfl (by decide) (by decide) (fun r u H locs hp hP hD hS => ?_)
  have hP : va_P D ecl ((ou, .inl (cJ, 1, .inr (.inl o))) :: u) H := hP
  have hD : va_D A ((ou, .inl (cJ, 1, .inr (.inl o))) :: u) := hD
  refine lv_i2l hx hb d_La_round_7 rfl ?_
  refine ed_last0 hx hb hK hP hD hS 0 2 rfl rfl d_La_round_8 (fun H locs o' ho hP hD hS => ?_)
  have hP : va_P D ecl ((ou, .inl (cJ, 1, .inr (.inl o'))) :: u) H := hP
  have hD : va_D A ((ou, .inl (cJ, 1, .inr (.inl o'))) :: u) := hD
  refine lv_goto (tgt := 15) hx hb d_La_round_9 rfl ?_
  refine lv_iconst (v := iI 0) hx hb d_La_round_15 rfl ?_
  exact W.iret (v := iI 0) hx hb hr (fun t9 ht9 hW9 => ⟨⟨iI 0, (ou, .inl (cJ, 1, .inr (.inl o'))) :: u, rfl, ⟨rfl, r, u, o', hp, ho, rfl⟩, by rw [ht9]; exact hP, hD⟩, hS.F ht9⟩) hS.2.2 d_La_round_16
set_option maxHeartbeats 4000000 in
set_option maxRecDepth 100000 in
theorem c_La_round_no (l : Launch) (D : va_G) (cB cI cJ : ClassId) (t5 : Nat) (ad : Nat → Nat) (ou : Nat) (o : Nat → Int64) {x : Nat} {v0 : Int32} {fs : List Value} {a2 : Nat} {w2 : va_E} (hM : c_T l m_Ed_round (Cond.code m_Ed_round b_Ed_round 3 (some .int) :: gw) (rmx_ 6 90) (eX t5 ad) D ecl (tyS cB cI cJ) [.ref x, .int (v0)] [(x, .inr (1, fs)), (a2, w2)] xIA) : c_I l m_La_round (Cond.codeWith m_La_round b_La_round 4 (some .int) [(0, 9, 12, 22)] :: gw) (rmx_ 7 112) (eX t5 ad) D ecl (tyS cB cI cJ) [.ref x, .int (v0), .ref ou] [(ou, .inl (cJ, 1, .inr (.inl o))), (x, .inr (1, fs)), (a2, w2)] (fun r u => r = iI 1 ∧ u = [(ou, .inl (cJ, 1, .inr (.inl o))), (x, .inr (1, fs)), (a2, w2)]) 1 6 := by
  intro sz0
  refine va_MetW (cc := b_La_round) (maxL := 4) (ret := some .int) (hh := [(0, 9, 12, 22)]) (by decide) rfl ?_
  intro p e s m args below meth c s₁ B hml hv
  obtain ⟨rfl, hsz, hP, hK, hD0, hE⟩ := hv
  have hx := B.exec
  have hb := B.bytes
  have hr := B.returns
  have hts := atoms_spec (ws := Cond.codeWith m_La_round b_La_round 4 (some .int) [(0, 9, 12, 22)] :: gw) B.pre
  have hown : s.vm.findClass R_La = some m.cls := findClass_of_methodNamed B.named
  have hlocks := B.notSynchronized
  subst hsz
  have hD := hD0.self (sz := s.heap.size)
  generalize hAe : va_A [(ou, .inl (cJ, 1, .inr (.inl o))), (x, .inr (1, fs)), (a2, w2)] s.heap.size = A at hD hE ⊢
  have hA : ∀ q : Nat, s.heap.size ≤ q → A q := fun q h => by rw [← hAe]; exact Or.inr h
  have hS : va_S A s.heap s.heap [] := va_S.rf
  have hl := lv_entry ([.ref x, .int (v0), .ref ou]) (n := 4) (Nat.le_of_ble_eq_true rfl)
  rw [lg_entry_eq]
  generalize (lg_sl ([.ref x, .int (v0), .ref ou]) ++ List.replicate (4 - (lg_sl ([.ref x, .int (v0), .ref ou])).length) Slot.unset).toArray = ls at hl ⊢
  have hl : lv_has ls 4 [(0, .ref x), (1, .int (v0)), (2, .ref ou)] := hl
  refine lv_aload_n hx hb d_La_round_0 rfl (lv_at hl 2 rfl) ?_
  refine lv_iconst (v := iI 0) hx hb d_La_round_1 rfl ?_
  refine lv_aload_n hx hb d_La_round_2 rfl (lv_at hl 0 rfl) ?_
  refine lv_iload_n hx hb d_La_round_3 rfl (lv_at hl 1 rfl) ?_
  refine c_ft (wc := [(x, .inr (1, fs)), (a2, w2)]) (wr := [(ou, .inl (cJ, 1, .inr (.inl o)))]) (vx_runV (C := "ExactDigits") (As := [.int (v0)]) (rest := [.int (iI (0)), .ref ou]) ⟨hx, hb, hml, hown, hts⟩ (hM s.heap.size) (cwV 1 hts (gV tw_320 tw_321 tw_322 tw_1 tw_323) rfl rfl rfl (by decide +kernel) ⟨Nat.le_of_ble_eq_true rfl, Nat.le_of_ble_eq_true rfl⟩) ⟨c_blind (eX_X t5 ad), va_recv (ci := 1) (q0 := 1) hK hP rfl rfl, fun U hU hW => c_pre (wc := [(x, .inr (1, fs)), (a2, w2)]) (eX_X t5 ad) hE hK hP hD hS hA [1, 2] rfl (by decide) U hU hW⟩ rfl rfl hl.1 rfl (lv_room (Nat.le_of_ble_eq_true rfl)) d_La_round_4 ⟨Nat.le_of_ble_eq_true rfl, Nat.le_of_ble_eq_true rfl⟩) hP hD hS hA [1, 2] [0] rfl rfl (by decide) (by decide) (fun ce q9 H locs hP hD hS h9 hv9 hc9 => ?_)
  refine vx_catch (name := xIA) hown [] { startPc := 0, endPc := 9, handlerPc := 12, catchType := 22 } [] ((vx_table (x := m_La_round) B (hts _ List.mem_cons_self)).trans rfl) (fun z hz => absurd hz List.not_mem_nil) (by decide) (by decide) (hts _ (List.mem_cons_of_mem _ tw_276)) (va_Nw.use rfl hE.2.2.2.2.2.2.2.2.2.2.2.1) h9 hv9 hc9 ?_
  refine ed_pc (pc' := 12) rfl ?_
  have hP : va_P D ecl [(ou, .inl (cJ, 1, .inr (.inl o))), (x, .inr (1, fs)), (a2, w2)] H := hP
  have hD : va_D A [(ou, .inl (cJ, 1, .inr (.inl o))), (x, .inr (1, fs)), (a2, w2)] := hD
  refine lv_astore_n hx hb d_La_round_12 rfl hl (by decide) rfl (fun ls hl => ?_)
  have hl : lv_has ls 4 [(3, .ref q9), (0, .ref x), (1, .int (v0)), (2, .ref ou)] := hl
  refine lv_iconst (v := iI 1) hx hb d_La_round_13 rfl ?_
  exact W.iret (v := (iI (1))) hx hb hr (fun t9 ht9 hW9 => ⟨⟨(iI (1)), [(ou, .inl (cJ, 1, .inr (.inl o))), (x, .inr (1, fs)), (a2, w2)], rfl, ⟨rfl, rfl⟩, by rw [ht9]; exact hP, hD⟩, hS.F ht9⟩) hS.2.2 d_La_round_14
set_option maxHeartbeats 4000000 in
set_option maxRecDepth 100000 in
theorem c_La_cut (l : Launch) (D : va_G) (cB cI cJ : ClassId) (t5 : Nat) (ad : Nat → Nat) (ou : Nat) (o : Nat → Int64) {x : Nat} {v0 : Int32} {fs : List Value} {a2 : Nat} {w2 : va_E} {P : Int32 → va_W → Prop} (hM : c_I l m_Ed_cut (Cond.code m_Ed_cut b_Ed_cut 2 (some .int) :: gw) (rm_ 6 90) (eX t5 ad) D ecl (tyS cB cI cJ) [.ref x, .int (v0)] [(x, .inr (1, fs)), (a2, w2)] P 0 0) : c_I l m_La_cut (Cond.codeWith m_La_cut b_La_cut 4 (some .int) [(0, 9, 12, 22)] :: gw) (rm_ 7 111) (eX t5 ad) D ecl (tyS cB cI cJ) [.ref x, .int (v0), .ref ou] [(ou, .inl (cJ, 1, .inr (.inl o))), (x, .inr (1, fs)), (a2, w2)] (fun r u => r = iI 0 ∧ ∃ (r0 : Int32) (u0 : va_W) (o' : Nat → Int64), P r0 u0 ∧ o' 0 = r0.toInt64 ∧ u = (ou, .inl (cJ, 1, .inr (.inl o'))) :: u0) 0 0 := by
  intro sz0
  refine va_MetW (cc := b_La_cut) (maxL := 4) (ret := some .int) (hh := [(0, 9, 12, 22)]) (by decide) rfl ?_
  intro p e s m args below meth c s₁ B hml hv
  obtain ⟨rfl, hsz, hP, hK, hD0, hE⟩ := hv
  have hx := B.exec
  have hb := B.bytes
  have hr := B.returns
  have hts := atoms_spec (ws := Cond.codeWith m_La_cut b_La_cut 4 (some .int) [(0, 9, 12, 22)] :: gw) B.pre
  have hown : s.vm.findClass R_La = some m.cls := findClass_of_methodNamed B.named
  have hlocks := B.notSynchronized
  subst hsz
  have hD := hD0.self (sz := s.heap.size)
  generalize hAe : va_A [(ou, .inl (cJ, 1, .inr (.inl o))), (x, .inr (1, fs)), (a2, w2)] s.heap.size = A at hD hE ⊢
  have hA : ∀ q : Nat, s.heap.size ≤ q → A q := fun q h => by rw [← hAe]; exact Or.inr h
  have hS : va_S A s.heap s.heap [] := va_S.rf
  have hl := lv_entry ([.ref x, .int (v0), .ref ou]) (n := 4) (Nat.le_of_ble_eq_true rfl)
  rw [lg_entry_eq]
  generalize (lg_sl ([.ref x, .int (v0), .ref ou]) ++ List.replicate (4 - (lg_sl ([.ref x, .int (v0), .ref ou])).length) Slot.unset).toArray = ls at hl ⊢
  have hl : lv_has ls 4 [(0, .ref x), (1, .int (v0)), (2, .ref ou)] := hl
  refine lv_aload_n hx hb d_La_cut_0 rfl (lv_at hl 2 rfl) ?_
  refine lv_iconst (v := iI 0) hx hb d_La_cut_1 rfl ?_
  refine lv_aload_n hx hb d_La_cut_2 rfl (lv_at hl 0 rfl) ?_
  refine lv_iload_n hx hb d_La_cut_3 rfl (lv_at hl 1 rfl) ?_
  refine c_fi (wc := [(x, .inr (1, fs)), (a2, w2)]) (wr := [(ou, .inl (cJ, 1, .inr (.inl o)))]) (va_runV (C := "ExactDigits") (As := [.int (v0)]) (rest := [.int (iI (0)), .ref ou]) ⟨hx, hb, hml, hown, hts⟩ (hM s.heap.size) (cwV 1 hts (gV tw_336 tw_337 tw_338 tw_1 tw_339) rfl rfl rfl (by decide +kernel) ⟨Nat.le_of_ble_eq_true rfl, Nat.le_of_ble_eq_true rfl⟩) ⟨c_blind (eX_X t5 ad), va_recv (ci := 1) (q0 := 1) hK hP rfl rfl, fun U hU hW => c_pre (wc := [(x, .inr (1, fs)), (a2, w2)]) (eX_X t5 ad) hE hK hP hD hS hA [1, 2] rfl (by decide) U hU hW⟩ rfl rfl hl.1 rfl (lv_room (Nat.le_of_ble_eq_true rfl)) d_La_cut_4 ⟨Nat.le_of_ble_eq_true rfl, Nat.le_of_ble_eq_true rfl⟩) hP hD hS hA [1, 2] [0] rfl rfl (by decide) (by decide) (fun r u H locs hp hP hD hS => ?_)
  have hP : va_P D ecl ((ou, .inl (cJ, 1, .inr (.inl o))) :: u) H := hP
  have hD : va_D A ((ou, .inl (cJ, 1, .inr (.inl o))) :: u) := hD
  refine lv_i2l hx hb d_La_cut_7 rfl ?_
  refine ed_last0 hx hb hK hP hD hS 0 2 rfl rfl d_La_cut_8 (fun H locs o' ho hP hD hS => ?_)
  have hP : va_P D ecl ((ou, .inl (cJ, 1, .inr (.inl o'))) :: u) H := hP
  have hD : va_D A ((ou, .inl (cJ, 1, .inr (.inl o'))) :: u) := hD
  refine lv_goto (tgt := 15) hx hb d_La_cut_9 rfl ?_
  refine lv_iconst (v := iI 0) hx hb d_La_cut_15 rfl ?_
  exact W.iret (v := iI 0) hx hb hr (fun t9 ht9 hW9 => ⟨⟨iI 0, (ou, .inl (cJ, 1, .inr (.inl o'))) :: u, rfl, ⟨rfl, r, u, o', hp, ho, rfl⟩, by rw [ht9]; exact hP, hD⟩, hS.F ht9⟩) hS.2.2 d_La_cut_16
set_option maxHeartbeats 4000000 in
set_option maxRecDepth 100000 in
theorem c_La_cut_no (l : Launch) (D : va_G) (cB cI cJ : ClassId) (t5 : Nat) (ad : Nat → Nat) (ou : Nat) (o : Nat → Int64) {x : Nat} {v0 : Int32} {fs : List Value} {a2 : Nat} {w2 : va_E} (hM : c_T l m_Ed_cut (Cond.code m_Ed_cut b_Ed_cut 2 (some .int) :: gw) (rmx_ 6 90) (eX t5 ad) D ecl (tyS cB cI cJ) [.ref x, .int (v0)] [(x, .inr (1, fs)), (a2, w2)] xIA) : c_I l m_La_cut (Cond.codeWith m_La_cut b_La_cut 4 (some .int) [(0, 9, 12, 22)] :: gw) (rmx_ 7 111) (eX t5 ad) D ecl (tyS cB cI cJ) [.ref x, .int (v0), .ref ou] [(ou, .inl (cJ, 1, .inr (.inl o))), (x, .inr (1, fs)), (a2, w2)] (fun r u => r = iI 1 ∧ u = [(ou, .inl (cJ, 1, .inr (.inl o))), (x, .inr (1, fs)), (a2, w2)]) 1 6 := by
  intro sz0
  refine va_MetW (cc := b_La_cut) (maxL := 4) (ret := some .int) (hh := [(0, 9, 12, 22)]) (by decide) rfl ?_
  intro p e s m args below meth c s₁ B hml hv
  obtain ⟨rfl, hsz, hP, hK, hD0, hE⟩ := hv
  have hx := B.exec
  have hb := B.bytes
  have hr := B.returns
  have hts := atoms_spec (ws := Cond.codeWith m_La_cut b_La_cut 4 (some .int) [(0, 9, 12, 22)] :: gw) B.pre
  have hown : s.vm.findClass R_La = some m.cls := findClass_of_methodNamed B.named
  have hlocks := B.notSynchronized
  subst hsz
  have hD := hD0.self (sz := s.heap.size)
  generalize hAe : va_A [(ou, .inl (cJ, 1, .inr (.inl o))), (x, .inr (1, fs)), (a2, w2)] s.heap.size = A at hD hE ⊢
  have hA : ∀ q : Nat, s.heap.size ≤ q → A q := fun q h => by rw [← hAe]; exact Or.inr h
  have hS : va_S A s.heap s.heap [] := va_S.rf
  have hl := lv_entry ([.ref x, .int (v0), .ref ou]) (n := 4) (Nat.le_of_ble_eq_true rfl)
  rw [lg_entry_eq]
  generalize (lg_sl ([.ref x, .int (v0), .ref ou]) ++ List.replicate (4 - (lg_sl ([.ref x, .int (v0), .ref ou])).length) Slot.unset).toArray = ls at hl ⊢
  have hl : lv_has ls 4 [(0, .ref x), (1, .int (v0)), (2, .ref ou)] := hl
  refine lv_aload_n hx hb d_La_cut_0 rfl (lv_at hl 2 rfl) ?_
  refine lv_iconst (v := iI 0) hx hb d_La_cut_1 rfl ?_
  refine lv_aload_n hx hb d_La_cut_2 rfl (lv_at hl 0 rfl) ?_
  refine lv_iload_n hx hb d_La_cut_3 rfl (lv_at hl 1 rfl) ?_
  refine c_ft (wc := [(x, .inr (1, fs)), (a2, w2)]) (wr := [(ou, .inl (cJ, 1, .inr (.inl o)))]) (vx_runV (C := "ExactDigits") (As := [.int (v0)]) (rest := [.int (iI (0)), .ref ou]) ⟨hx, hb, hml, hown, hts⟩ (hM s.heap.size) (cwV 1 hts (gV tw_336 tw_337 tw_338 tw_1 tw_339) rfl rfl rfl (by decide +kernel) ⟨Nat.le_of_ble_eq_true rfl, Nat.le_of_ble_eq_true rfl⟩) ⟨c_blind (eX_X t5 ad), va_recv (ci := 1) (q0 := 1) hK hP rfl rfl, fun U hU hW => c_pre (wc := [(x, .inr (1, fs)), (a2, w2)]) (eX_X t5 ad) hE hK hP hD hS hA [1, 2] rfl (by decide) U hU hW⟩ rfl rfl hl.1 rfl (lv_room (Nat.le_of_ble_eq_true rfl)) d_La_cut_4 ⟨Nat.le_of_ble_eq_true rfl, Nat.le_of_ble_eq_true rfl⟩) hP hD hS hA [1, 2] [0] rfl rfl (by decide) (by decide) (fun ce q9 H locs hP hD hS h9 hv9 hc9 => ?_)
  refine vx_catch (name := xIA) hown [] { startPc := 0, endPc := 9, handlerPc := 12, catchType := 22 } [] ((vx_table (x := m_La_cut) B (hts _ List.mem_cons_self)).trans rfl) (fun z hz => absurd hz List.not_mem_nil) (by decide) (by decide) (hts _ (List.mem_cons_of_mem _ tw_276)) (va_Nw.use rfl hE.2.2.2.2.2.2.2.2.2.2.2.1) h9 hv9 hc9 ?_
  refine ed_pc (pc' := 12) rfl ?_
  have hP : va_P D ecl [(ou, .inl (cJ, 1, .inr (.inl o))), (x, .inr (1, fs)), (a2, w2)] H := hP
  have hD : va_D A [(ou, .inl (cJ, 1, .inr (.inl o))), (x, .inr (1, fs)), (a2, w2)] := hD
  refine lv_astore_n hx hb d_La_cut_12 rfl hl (by decide) rfl (fun ls hl => ?_)
  have hl : lv_has ls 4 [(3, .ref q9), (0, .ref x), (1, .int (v0)), (2, .ref ou)] := hl
  refine lv_iconst (v := iI 1) hx hb d_La_cut_13 rfl ?_
  exact W.iret (v := (iI (1))) hx hb hr (fun t9 ht9 hW9 => ⟨⟨(iI (1)), [(ou, .inl (cJ, 1, .inr (.inl o))), (x, .inr (1, fs)), (a2, w2)], rfl, ⟨rfl, rfl⟩, by rw [ht9]; exact hP, hD⟩, hS.F ht9⟩) hS.2.2 d_La_cut_14
set_option maxHeartbeats 4000000 in
set_option maxRecDepth 100000 in
theorem c_La_told (l : Launch) (D : va_G) (cB cI cJ : ClassId) (t5 : Nat) (ad : Nat → Nat) (ou : Nat) (o : Nat → Int64) {x : Nat} {v0 : Int32} {fs : List Value} {a2 : Nat} {w2 : va_E} {P : Int32 → va_W → Prop} (hM : c_I l m_Ed_told (Cond.code m_Ed_told b_Ed_told 2 (some .int) :: gw) (rm_ 6 90) (eX t5 ad) D ecl (tyS cB cI cJ) [.ref x, .int (v0)] [(x, .inr (1, fs)), (a2, w2)] P 0 0) : c_I l m_La_told (Cond.codeWith m_La_told b_La_told 4 (some .int) [(0, 9, 12, 22)] :: gw) (rm_ 7 111) (eX t5 ad) D ecl (tyS cB cI cJ) [.ref x, .int (v0), .ref ou] [(ou, .inl (cJ, 1, .inr (.inl o))), (x, .inr (1, fs)), (a2, w2)] (fun r u => r = iI 0 ∧ ∃ (r0 : Int32) (u0 : va_W) (o' : Nat → Int64), P r0 u0 ∧ o' 0 = r0.toInt64 ∧ u = (ou, .inl (cJ, 1, .inr (.inl o'))) :: u0) 0 0 := by
  intro sz0
  refine va_MetW (cc := b_La_told) (maxL := 4) (ret := some .int) (hh := [(0, 9, 12, 22)]) (by decide) rfl ?_
  intro p e s m args below meth c s₁ B hml hv
  obtain ⟨rfl, hsz, hP, hK, hD0, hE⟩ := hv
  have hx := B.exec
  have hb := B.bytes
  have hr := B.returns
  have hts := atoms_spec (ws := Cond.codeWith m_La_told b_La_told 4 (some .int) [(0, 9, 12, 22)] :: gw) B.pre
  have hown : s.vm.findClass R_La = some m.cls := findClass_of_methodNamed B.named
  have hlocks := B.notSynchronized
  subst hsz
  have hD := hD0.self (sz := s.heap.size)
  generalize hAe : va_A [(ou, .inl (cJ, 1, .inr (.inl o))), (x, .inr (1, fs)), (a2, w2)] s.heap.size = A at hD hE ⊢
  have hA : ∀ q : Nat, s.heap.size ≤ q → A q := fun q h => by rw [← hAe]; exact Or.inr h
  have hS : va_S A s.heap s.heap [] := va_S.rf
  have hl := lv_entry ([.ref x, .int (v0), .ref ou]) (n := 4) (Nat.le_of_ble_eq_true rfl)
  rw [lg_entry_eq]
  generalize (lg_sl ([.ref x, .int (v0), .ref ou]) ++ List.replicate (4 - (lg_sl ([.ref x, .int (v0), .ref ou])).length) Slot.unset).toArray = ls at hl ⊢
  have hl : lv_has ls 4 [(0, .ref x), (1, .int (v0)), (2, .ref ou)] := hl
  refine lv_aload_n hx hb d_La_told_0 rfl (lv_at hl 2 rfl) ?_
  refine lv_iconst (v := iI 0) hx hb d_La_told_1 rfl ?_
  refine lv_aload_n hx hb d_La_told_2 rfl (lv_at hl 0 rfl) ?_
  refine lv_iload_n hx hb d_La_told_3 rfl (lv_at hl 1 rfl) ?_
  refine c_fi (wc := [(x, .inr (1, fs)), (a2, w2)]) (wr := [(ou, .inl (cJ, 1, .inr (.inl o)))]) (va_runV (C := "ExactDigits") (As := [.int (v0)]) (rest := [.int (iI (0)), .ref ou]) ⟨hx, hb, hml, hown, hts⟩ (hM s.heap.size) (cwV 1 hts (gV tw_343 tw_344 tw_345 tw_1 tw_346) rfl rfl rfl (by decide +kernel) ⟨Nat.le_of_ble_eq_true rfl, Nat.le_of_ble_eq_true rfl⟩) ⟨c_blind (eX_X t5 ad), va_recv (ci := 1) (q0 := 1) hK hP rfl rfl, fun U hU hW => c_pre (wc := [(x, .inr (1, fs)), (a2, w2)]) (eX_X t5 ad) hE hK hP hD hS hA [1, 2] rfl (by decide) U hU hW⟩ rfl rfl hl.1 rfl (lv_room (Nat.le_of_ble_eq_true rfl)) d_La_told_4 ⟨Nat.le_of_ble_eq_true rfl, Nat.le_of_ble_eq_true rfl⟩) hP hD hS hA [1, 2] [0] rfl rfl (by decide) (by decide) (fun r u H locs hp hP hD hS => ?_)
  have hP : va_P D ecl ((ou, .inl (cJ, 1, .inr (.inl o))) :: u) H := hP
  have hD : va_D A ((ou, .inl (cJ, 1, .inr (.inl o))) :: u) := hD
  refine lv_i2l hx hb d_La_told_7 rfl ?_
  refine ed_last0 hx hb hK hP hD hS 0 2 rfl rfl d_La_told_8 (fun H locs o' ho hP hD hS => ?_)
  have hP : va_P D ecl ((ou, .inl (cJ, 1, .inr (.inl o'))) :: u) H := hP
  have hD : va_D A ((ou, .inl (cJ, 1, .inr (.inl o'))) :: u) := hD
  refine lv_goto (tgt := 15) hx hb d_La_told_9 rfl ?_
  refine lv_iconst (v := iI 0) hx hb d_La_told_15 rfl ?_
  exact W.iret (v := iI 0) hx hb hr (fun t9 ht9 hW9 => ⟨⟨iI 0, (ou, .inl (cJ, 1, .inr (.inl o'))) :: u, rfl, ⟨rfl, r, u, o', hp, ho, rfl⟩, by rw [ht9]; exact hP, hD⟩, hS.F ht9⟩) hS.2.2 d_La_told_16
set_option maxHeartbeats 4000000 in
set_option maxRecDepth 100000 in
theorem c_La_told_no (l : Launch) (D : va_G) (cB cI cJ : ClassId) (t5 : Nat) (ad : Nat → Nat) (ou : Nat) (o : Nat → Int64) {x : Nat} {v0 : Int32} {fs : List Value} {a2 : Nat} {w2 : va_E} (hM : c_T l m_Ed_told (Cond.code m_Ed_told b_Ed_told 2 (some .int) :: gw) (rmx_ 6 90) (eX t5 ad) D ecl (tyS cB cI cJ) [.ref x, .int (v0)] [(x, .inr (1, fs)), (a2, w2)] xIA) : c_I l m_La_told (Cond.codeWith m_La_told b_La_told 4 (some .int) [(0, 9, 12, 22)] :: gw) (rmx_ 7 111) (eX t5 ad) D ecl (tyS cB cI cJ) [.ref x, .int (v0), .ref ou] [(ou, .inl (cJ, 1, .inr (.inl o))), (x, .inr (1, fs)), (a2, w2)] (fun r u => r = iI 1 ∧ u = [(ou, .inl (cJ, 1, .inr (.inl o))), (x, .inr (1, fs)), (a2, w2)]) 1 6 := by
  intro sz0
  refine va_MetW (cc := b_La_told) (maxL := 4) (ret := some .int) (hh := [(0, 9, 12, 22)]) (by decide) rfl ?_
  intro p e s m args below meth c s₁ B hml hv
  obtain ⟨rfl, hsz, hP, hK, hD0, hE⟩ := hv
  have hx := B.exec
  have hb := B.bytes
  have hr := B.returns
  have hts := atoms_spec (ws := Cond.codeWith m_La_told b_La_told 4 (some .int) [(0, 9, 12, 22)] :: gw) B.pre
  have hown : s.vm.findClass R_La = some m.cls := findClass_of_methodNamed B.named
  have hlocks := B.notSynchronized
  subst hsz
  have hD := hD0.self (sz := s.heap.size)
  generalize hAe : va_A [(ou, .inl (cJ, 1, .inr (.inl o))), (x, .inr (1, fs)), (a2, w2)] s.heap.size = A at hD hE ⊢
  have hA : ∀ q : Nat, s.heap.size ≤ q → A q := fun q h => by rw [← hAe]; exact Or.inr h
  have hS : va_S A s.heap s.heap [] := va_S.rf
  have hl := lv_entry ([.ref x, .int (v0), .ref ou]) (n := 4) (Nat.le_of_ble_eq_true rfl)
  rw [lg_entry_eq]
  generalize (lg_sl ([.ref x, .int (v0), .ref ou]) ++ List.replicate (4 - (lg_sl ([.ref x, .int (v0), .ref ou])).length) Slot.unset).toArray = ls at hl ⊢
  have hl : lv_has ls 4 [(0, .ref x), (1, .int (v0)), (2, .ref ou)] := hl
  refine lv_aload_n hx hb d_La_told_0 rfl (lv_at hl 2 rfl) ?_
  refine lv_iconst (v := iI 0) hx hb d_La_told_1 rfl ?_
  refine lv_aload_n hx hb d_La_told_2 rfl (lv_at hl 0 rfl) ?_
  refine lv_iload_n hx hb d_La_told_3 rfl (lv_at hl 1 rfl) ?_
  refine c_ft (wc := [(x, .inr (1, fs)), (a2, w2)]) (wr := [(ou, .inl (cJ, 1, .inr (.inl o)))]) (vx_runV (C := "ExactDigits") (As := [.int (v0)]) (rest := [.int (iI (0)), .ref ou]) ⟨hx, hb, hml, hown, hts⟩ (hM s.heap.size) (cwV 1 hts (gV tw_343 tw_344 tw_345 tw_1 tw_346) rfl rfl rfl (by decide +kernel) ⟨Nat.le_of_ble_eq_true rfl, Nat.le_of_ble_eq_true rfl⟩) ⟨c_blind (eX_X t5 ad), va_recv (ci := 1) (q0 := 1) hK hP rfl rfl, fun U hU hW => c_pre (wc := [(x, .inr (1, fs)), (a2, w2)]) (eX_X t5 ad) hE hK hP hD hS hA [1, 2] rfl (by decide) U hU hW⟩ rfl rfl hl.1 rfl (lv_room (Nat.le_of_ble_eq_true rfl)) d_La_told_4 ⟨Nat.le_of_ble_eq_true rfl, Nat.le_of_ble_eq_true rfl⟩) hP hD hS hA [1, 2] [0] rfl rfl (by decide) (by decide) (fun ce q9 H locs hP hD hS h9 hv9 hc9 => ?_)
  refine vx_catch (name := xIA) hown [] { startPc := 0, endPc := 9, handlerPc := 12, catchType := 22 } [] ((vx_table (x := m_La_told) B (hts _ List.mem_cons_self)).trans rfl) (fun z hz => absurd hz List.not_mem_nil) (by decide) (by decide) (hts _ (List.mem_cons_of_mem _ tw_276)) (va_Nw.use rfl hE.2.2.2.2.2.2.2.2.2.2.2.1) h9 hv9 hc9 ?_
  refine ed_pc (pc' := 12) rfl ?_
  have hP : va_P D ecl [(ou, .inl (cJ, 1, .inr (.inl o))), (x, .inr (1, fs)), (a2, w2)] H := hP
  have hD : va_D A [(ou, .inl (cJ, 1, .inr (.inl o))), (x, .inr (1, fs)), (a2, w2)] := hD
  refine lv_astore_n hx hb d_La_told_12 rfl hl (by decide) rfl (fun ls hl => ?_)
  have hl : lv_has ls 4 [(3, .ref q9), (0, .ref x), (1, .int (v0)), (2, .ref ou)] := hl
  refine lv_iconst (v := iI 1) hx hb d_La_told_13 rfl ?_
  exact W.iret (v := (iI (1))) hx hb hr (fun t9 ht9 hW9 => ⟨⟨(iI (1)), [(ou, .inl (cJ, 1, .inr (.inl o))), (x, .inr (1, fs)), (a2, w2)], rfl, ⟨rfl, rfl⟩, by rw [ht9]; exact hP, hD⟩, hS.F ht9⟩) hS.2.2 d_La_told_14
