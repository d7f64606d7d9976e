set_option maxHeartbeats 4000000 in
set_option maxRecDepth 100000 in
theorem c_Mo_round (l : Launch) (D : va_G) (cB cI cJ : ClassId) (t5 : Nat) (ad : Nat → Nat) (mo nb nd un ov xx dc : Nat) (d : Nat → Int32) (pt zl th pw zk : Int) (ma : Int64) (n : Int) (X : Nat) (hnm : nm_ok d X) (hpt : -9000000 ≤ pt ∧ pt ≤ 9000000) (h0 : X = 0 → pt = 0) (hk : -2000 ≤ n ∧ n ≤ 2000) (hno : pt + n < 0 ∨ ((dl X : Nat) : Int) ≤ pt + n ∨ X / 10 ^ (dl X - 1 - (pt + n).toNat) % 10 < 5) : c_I l m_Mo_round (Cond.code m_Mo_round b_Mo_round 2 (some .int) :: gw) (rm_ 3 115) (eX t5 ad) D ecl (tyS cB cI cJ) [.ref mo, .int (iI (n))] [(mo, .inr (4, [.ref nb, .ref un, .ref ov, .ref xx, .ref dc, .int (iI (zl)), .int (iI (th)), .long (ma), .int (iI (pw)), .int (iI (zk))])), (nb, .inr (3, [.ref nd, .int (iI (((dl X : Nat) : Int))), .int (iI (pt))])), (nd, .inl (cB, 4200, .inl d))] (fun r u => r = iI ((dl (rz (kfY X (pt + n))) : Nat) : Int) ∧ nm_ok d (rz (kfY X (pt + n))) ∧ u = [(mo, .inr (4, [.ref nb, .ref un, .ref ov, .ref xx, .ref dc, .int (iI (0)), .int (iI (0)), .long (ma), .int (iI (pw)), .int (iI (zk))])), (nb, .inr (3, [.ref nd, .int (iI (((dl (rz (kfY X (pt + n))) : Nat) : Int))), .int (iI (if (kfY X (pt + n)) = 0 then 0 else pt))])), (nd, .inl (cB, 4200, .inl d))]) 0 0 := by
  intro sz0
  refine Met.ofW (cc := b_Mo_round) (maxL := 2) (ret := (some .int)) (by decide) rfl ?_
  intro p e s m args below meth c s₁ B hml hv
  obtain ⟨rfl, hsz, hP, hK, hD0, hE⟩ := hv
  have hx := B.exec
  have hb := B.bytes
  have hr := B.returns
  have hts := atoms_spec (ws := Cond.code m_Mo_round b_Mo_round 2 (some .int) :: gw) B.pre
  have hown : s.vm.findClass R_Mo = some m.cls := findClass_of_methodNamed B.named
  have hlocks := B.notSynchronized
  subst hsz
  have hD := hD0.self (sz := s.heap.size)
  generalize hAe : va_A [(mo, .inr (4, [.ref nb, .ref un, .ref ov, .ref xx, .ref dc, .int (iI (zl)), .int (iI (th)), .long (ma), .int (iI (pw)), .int (iI (zk))])), (nb, .inr (3, [.ref nd, .int (iI (((dl X : Nat) : Int))), .int (iI (pt))])), (nd, .inl (cB, 4200, .inl d))] s.heap.size = A at hD hE ⊢
  have hA : ∀ q : Nat, s.heap.size ≤ q → A q := fun q h => by rw [← hAe]; exact Or.inr h
  have hS : va_S A s.heap s.heap [] := va_S.rf
  have hl := lv_entry ([.ref mo, .int (iI (n))]) (n := 2) (Nat.le_of_ble_eq_true rfl)
  rw [lg_entry_eq]
  generalize (lg_sl ([.ref mo, .int (iI (n))]) ++ List.replicate (2 - (lg_sl ([.ref mo, .int (iI (n))])).length) Slot.unset).toArray = ls at hl ⊢
  have hl : lv_has ls 2 [(0, .ref mo), (1, .int (iI (n)))] := hl
  refine lv_aload_n hx hb d_Mo_round_0 rfl (lv_at hl 0 rfl) ?_
  refine lv_iload_n hx hb d_Mo_round_1 rfl (lv_at hl 1 rfl) ?_
  refine lv_iconst (v := iI 1) hx hb d_Mo_round_2 rfl ?_
  refine c_fi (wc := [(mo, .inr (4, [.ref nb, .ref un, .ref ov, .ref xx, .ref dc, .int (iI (zl)), .int (iI (th)), .long (ma), .int (iI (pw)), .int (iI (zk))])), (nb, .inr (3, [.ref nd, .int (iI (((dl X : Nat) : Int))), .int (iI (pt))])), (nd, .inl (cB, 4200, .inl d))]) (wr := []) (va_runV (C := "ExactDigitsModel") (As := [.int (iI (n)), .int (iI (1))]) (rest := []) ⟨hx, hb, hml, hown, hts⟩ (c_Mo_ended l D cB cI cJ t5 ad mo nb nd un ov xx dc d pt zl th pw zk ma n 1 X hnm hpt h0 hk (by omega) (Or.inr hno) s.heap.size) (cwV 2 hts (gV tw_515 tw_517 ts_19 tw_3 tw_518) rfl rfl rfl (by decide +kernel) ⟨Nat.le_of_ble_eq_true rfl, Nat.le_of_ble_eq_true rfl⟩) ⟨c_blind (eX_X t5 ad), va_recv (ci := 4) (q0 := 0) hK hP rfl rfl, fun U hU hW => c_pre (wc := [(mo, .inr (4, [.ref nb, .ref un, .ref ov, .ref xx, .ref dc, .int (iI (zl)), .int (iI (th)), .long (ma), .int (iI (pw)), .int (iI (zk))])), (nb, .inr (3, [.ref nd, .int (iI (((dl X : Nat) : Int))), .int (iI (pt))])), (nd, .inl (cB, 4200, .inl d))]) (eX_X t5 ad) hE hK hP hD hS hA [0, 1, 2] rfl (by decide) U hU hW⟩ rfl rfl hl.1 rfl (lv_room (Nat.le_of_ble_eq_true rfl)) d_Mo_round_3 ⟨Nat.le_of_ble_eq_true rfl, Nat.le_of_ble_eq_true rfl⟩) hP hD hS hA [0, 1, 2] [] rfl rfl (by decide) (by decide) (fun r u H locs hp hP hD hS => ?_)
  obtain ⟨rfl, hok, rfl⟩ := hp
  have hP : va_P D ecl [(mo, .inr (4, [.ref nb, .ref un, .ref ov, .ref xx, .ref dc, .int (iI (0)), .int (iI (0)), .long (ma), .int (iI (pw)), .int (iI (zk))])), (nb, .inr (3, [.ref nd, .int (iI (((dl (rz (kfY X (pt + n))) : Nat) : Int))), .int (iI (if (kfY X (pt + n)) = 0 then 0 else pt))])), (nd, .inl (cB, 4200, .inl d))] H := hP
  have hD : va_D A [(mo, .inr (4, [.ref nb, .ref un, .ref ov, .ref xx, .ref dc, .int (iI (0)), .int (iI (0)), .long (ma), .int (iI (pw)), .int (iI (zk))])), (nb, .inr (3, [.ref nd, .int (iI (((dl (rz (kfY X (pt + n))) : Nat) : Int))), .int (iI (if (kfY X (pt + n)) = 0 then 0 else pt))])), (nd, .inl (cB, 4200, .inl d))] := hD
  exact W.iret (v := (iI (((dl (rz (kfY X (pt + n))) : Nat) : Int)))) hx hb hr (fun t9 ht9 hW9 => ⟨⟨(iI (((dl (rz (kfY X (pt + n))) : Nat) : Int))), [(mo, .inr (4, [.ref nb, .ref un, .ref ov, .ref xx, .ref dc, .int (iI (0)), .int (iI (0)), .long (ma), .int (iI (pw)), .int (iI (zk))])), (nb, .inr (3, [.ref nd, .int (iI (((dl (rz (kfY X (pt + n))) : Nat) : Int))), .int (iI (if (kfY X (pt + n)) = 0 then 0 else pt))])), (nd, .inl (cB, 4200, .inl d))], rfl, ⟨rfl, hok, rfl⟩, by rw [ht9]; exact hP, hD⟩, hS.F ht9⟩) hS.2.2 d_Mo_round_6
set_option maxHeartbeats 4000000 in
set_option maxRecDepth 100000 in
theorem c_Mo_round_no (l : Launch) (D : va_G) (cB cI cJ : ClassId) (t5 : Nat) (ad : Nat → Nat) (mo nb nd un ov xx dc : Nat) (d : Nat → Int32) (pt zl th pw zk : Int) (ma : Int64) (X : Nat) (n : Int) (hk : iR n) (hm : n < -2000 ∨ 2000 < n) : c_I l m_Mo_round (Cond.code m_Mo_round b_Mo_round 2 (some .int) :: gw) (rm_ 3 115) (eX t5 ad) D ecl (tyS cB cI cJ) [.ref mo, .int (iI (n))] [(mo, .inr (4, [.ref nb, .ref un, .ref ov, .ref xx, .ref dc, .int (iI (zl)), .int (iI (th)), .long (ma), .int (iI (pw)), .int (iI (zk))])), (nb, .inr (3, [.ref nd, .int (iI (((dl X : Nat) : Int))), .int (iI (pt))])), (nd, .inl (cB, 4200, .inl d))] (fun r u => r = iI 0 ∧ u = [(mo, .inr (4, [.ref nb, .ref un, .ref ov, .ref xx, .ref dc, .int (iI (zl)), .int (iI (1)), .long (ma), .int (iI (pw)), .int (iI (zk))])), (nb, .inr (3, [.ref nd, .int (iI (((dl X : Nat) : Int))), .int (iI (pt))])), (nd, .inl (cB, 4200, .inl d))]) 0 0 := by
  intro sz0
  refine Met.ofW (cc := b_Mo_round) (maxL := 2) (ret := (some .int)) (by decide) rfl ?_
  intro p e s m args below meth c s₁ B hml hv
  obtain ⟨rfl, hsz, hP, hK, hD0, hE⟩ := hv
  have hx := B.exec
  have hb := B.bytes
  have hr := B.returns
  have hts := atoms_spec (ws := Cond.code m_Mo_round b_Mo_round 2 (some .int) :: gw) B.pre
  have hown : s.vm.findClass R_Mo = some m.cls := findClass_of_methodNamed B.named
  have hlocks := B.notSynchronized
  subst hsz
  have hD := hD0.self (sz := s.heap.size)
  generalize hAe : va_A [(mo, .inr (4, [.ref nb, .ref un, .ref ov, .ref xx, .ref dc, .int (iI (zl)), .int (iI (th)), .long (ma), .int (iI (pw)), .int (iI (zk))])), (nb, .inr (3, [.ref nd, .int (iI (((dl X : Nat) : Int))), .int (iI (pt))])), (nd, .inl (cB, 4200, .inl d))] s.heap.size = A at hD hE ⊢
  have hA : ∀ q : Nat, s.heap.size ≤ q → A q := fun q h => by rw [← hAe]; exact Or.inr h
  have hS : va_S A s.heap s.heap [] := va_S.rf
  have hl := lv_entry ([.ref mo, .int (iI (n))]) (n := 2) (Nat.le_of_ble_eq_true rfl)
  rw [lg_entry_eq]
  generalize (lg_sl ([.ref mo, .int (iI (n))]) ++ List.replicate (2 - (lg_sl ([.ref mo, .int (iI (n))])).length) Slot.unset).toArray = ls at hl ⊢
  have hl : lv_has ls 2 [(0, .ref mo), (1, .int (iI (n)))] := hl
  refine lv_aload_n hx hb d_Mo_round_0 rfl (lv_at hl 0 rfl) ?_
  refine lv_iload_n hx hb d_Mo_round_1 rfl (lv_at hl 1 rfl) ?_
  refine lv_iconst (v := iI 1) hx hb d_Mo_round_2 rfl ?_
  refine c_fi (wc := [(mo, .inr (4, [.ref nb, .ref un, .ref ov, .ref xx, .ref dc, .int (iI (zl)), .int (iI (th)), .long (ma), .int (iI (pw)), .int (iI (zk))])), (nb, .inr (3, [.ref nd, .int (iI (((dl X : Nat) : Int))), .int (iI (pt))])), (nd, .inl (cB, 4200, .inl d))]) (wr := []) (va_runV (C := "ExactDigitsModel") (As := [.int (iI (n)), .int (iI (1))]) (rest := []) ⟨hx, hb, hml, hown, hts⟩ (c_Mo_ended_no l D cB cI cJ t5 ad mo nb nd un ov xx dc d pt zl th pw zk ma X n 1 hk hm s.heap.size) (cwV 2 hts (gV tw_515 tw_517 ts_19 tw_3 tw_518) rfl rfl rfl (by decide +kernel) ⟨Nat.le_of_ble_eq_true rfl, Nat.le_of_ble_eq_true rfl⟩) ⟨c_blind (eX_X t5 ad), va_recv (ci := 4) (q0 := 0) hK hP rfl rfl, fun U hU hW => c_pre (wc := [(mo, .inr (4, [.ref nb, .ref un, .ref ov, .ref xx, .ref dc, .int (iI (zl)), .int (iI (th)), .long (ma), .int (iI (pw)), .int (iI (zk))])), (nb, .inr (3, [.ref nd, .int (iI (((dl X : Nat) : Int))), .int (iI (pt))])), (nd, .inl (cB, 4200, .inl d))]) (eX_X t5 ad) hE hK hP hD hS hA [0, 1, 2] rfl (by decide) U hU hW⟩ rfl rfl hl.1 rfl (lv_room (Nat.le_of_ble_eq_true rfl)) d_Mo_round_3 ⟨Nat.le_of_ble_eq_true rfl, Nat.le_of_ble_eq_true rfl⟩) hP hD hS hA [0, 1, 2] [] rfl rfl (by decide) (by decide) (fun r u H locs hp hP hD hS => ?_)
  obtain ⟨rfl, rfl⟩ := hp
  have hP : va_P D ecl [(mo, .inr (4, [.ref nb, .ref un, .ref ov, .ref xx, .ref dc, .int (iI (zl)), .int (iI (1)), .long (ma), .int (iI (pw)), .int (iI (zk))])), (nb, .inr (3, [.ref nd, .int (iI (((dl X : Nat) : Int))), .int (iI (pt))])), (nd, .inl (cB, 4200, .inl d))] H := hP
  have hD : va_D A [(mo, .inr (4, [.ref nb, .ref un, .ref ov, .ref xx, .ref dc, .int (iI (zl)), .int (iI (1)), .long (ma), .int (iI (pw)), .int (iI (zk))])), (nb, .inr (3, [.ref nd, .int (iI (((dl X : Nat) : Int))), .int (iI (pt))])), (nd, .inl (cB, 4200, .inl d))] := hD
  exact W.iret (v := (iI (0))) hx hb hr (fun t9 ht9 hW9 => ⟨⟨(iI (0)), [(mo, .inr (4, [.ref nb, .ref un, .ref ov, .ref xx, .ref dc, .int (iI (zl)), .int (iI (1)), .long (ma), .int (iI (pw)), .int (iI (zk))])), (nb, .inr (3, [.ref nd, .int (iI (((dl X : Nat) : Int))), .int (iI (pt))])), (nd, .inl (cB, 4200, .inl d))], rfl, ⟨rfl, rfl⟩, by rw [ht9]; exact hP, hD⟩, hS.F ht9⟩) hS.2.2 d_Mo_round_6
set_option maxHeartbeats 4000000 in
set_option maxRecDepth 100000 in
theorem c_Mo_round_up (l : Launch) (D : va_G) (cB cI cJ : ClassId) (t5 : Nat) (ad : Nat → Nat) (mo nb nd un ov xx dc : Nat) (d : Nat → Int32) (pt zl th pw zk : Int) (ma : Int64) (n : Int) (X : Nat) (hnm : nm_ok d X) (hpt : -9000000 ≤ pt ∧ pt ≤ 9000000) (hk : -2000 ≤ n ∧ n ≤ 2000) (j : Nat) (hj : pt + n = (j : Int)) (hjd : j < dl X) (h5 : 5 ≤ X / 10 ^ (dl X - 1 - j) % 10) : c_I l m_Mo_round (Cond.code m_Mo_round b_Mo_round 2 (some .int) :: gw) (rm_ 3 115) (eX t5 ad) D ecl (tyS cB cI cJ) [.ref mo, .int (iI (n))] [(mo, .inr (4, [.ref nb, .ref un, .ref ov, .ref xx, .ref dc, .int (iI (zl)), .int (iI (th)), .long (ma), .int (iI (pw)), .int (iI (zk))])), (nb, .inr (3, [.ref nd, .int (iI (((dl X : Nat) : Int))), .int (iI (pt))])), (nd, .inl (cB, 4200, .inl d))] (fun r u => r = iI ((dl (rz (X / 10 ^ (dl X - j) + 1)) : Nat) : Int) ∧ ∃ d' : Nat → Int32, nm_ok d' (rz (X / 10 ^ (dl X - j) + 1)) ∧ u = [(mo, .inr (4, [.ref nb, .ref un, .ref ov, .ref xx, .ref dc, .int (iI (0)), .int (iI (0)), .long (ma), .int (iI (pw)), .int (iI (zk))])), (nb, .inr (3, [.ref nd, .int (iI (((dl (rz (X / 10 ^ (dl X - j) + 1)) : Nat) : Int))), .int (iI (if (X / 10 ^ (dl X - j) + 1) = 10 ^ j then pt + 1 else pt))])), (nd, .inl (cB, 4200, .inl d'))]) 0 0 := by
  intro sz0
  refine Met.ofW (cc := b_Mo_round) (maxL := 2) (ret := (some .int)) (by decide) rfl ?_
  intro p e s m args below meth c s₁ B hml hv
  obtain ⟨rfl, hsz, hP, hK, hD0, hE⟩ := hv
  have hx := B.exec
  have hb := B.bytes
  have hr := B.returns
  have hts := atoms_spec (ws := Cond.code m_Mo_round b_Mo_round 2 (some .int) :: gw) B.pre
  have hown : s.vm.findClass R_Mo = some m.cls := findClass_of_methodNamed B.named
  have hlocks := B.notSynchronized
  subst hsz
  have hD := hD0.self (sz := s.heap.size)
  generalize hAe : va_A [(mo, .inr (4, [.ref nb, .ref un, .ref ov, .ref xx, .ref dc, .int (iI (zl)), .int (iI (th)), .long (ma), .int (iI (pw)), .int (iI (zk))])), (nb, .inr (3, [.ref nd, .int (iI (((dl X : Nat) : Int))), .int (iI (pt))])), (nd, .inl (cB, 4200, .inl d))] s.heap.size = A at hD hE ⊢
  have hA : ∀ q : Nat, s.heap.size ≤ q → A q := fun q h => by rw [← hAe]; exact Or.inr h
  have hS : va_S A s.heap s.heap [] := va_S.rf
  have hl := lv_entry ([.ref mo, .int (iI (n))]) (n := 2) (Nat.le_of_ble_eq_true rfl)
  rw [lg_entry_eq]
  generalize (lg_sl ([.ref mo, .int (iI (n))]) ++ List.replicate (2 - (lg_sl ([.ref mo, .int (iI (n))])).length) Slot.unset).toArray = ls at hl ⊢
  have hl : lv_has ls 2 [(0, .ref mo), (1, .int (iI (n)))] := hl
  refine lv_aload_n hx hb d_Mo_round_0 rfl (lv_at hl 0 rfl) ?_
  refine lv_iload_n hx hb d_Mo_round_1 rfl (lv_at hl 1 rfl) ?_
  refine lv_iconst (v := iI 1) hx hb d_Mo_round_2 rfl ?_
  refine c_fi (wc := [(mo, .inr (4, [.ref nb, .ref un, .ref ov, .ref xx, .ref dc, .int (iI (zl)), .int (iI (th)), .long (ma), .int (iI (pw)), .int (iI (zk))])), (nb, .inr (3, [.ref nd, .int (iI (((dl X : Nat) : Int))), .int (iI (pt))])), (nd, .inl (cB, 4200, .inl d))]) (wr := []) (va_runV (C := "ExactDigitsModel") (As := [.int (iI (n)), .int (iI (1))]) (rest := []) ⟨hx, hb, hml, hown, hts⟩ (c_Mo_ended_up l D cB cI cJ t5 ad mo nb nd un ov xx dc d pt zl th pw zk ma n X hnm hpt hk j hj hjd h5 s.heap.size) (cwV 2 hts (gV tw_515 tw_517 ts_19 tw_3 tw_518) rfl rfl rfl (by decide +kernel) ⟨Nat.le_of_ble_eq_true rfl, Nat.le_of_ble_eq_true rfl⟩) ⟨c_blind (eX_X t5 ad), va_recv (ci := 4) (q0 := 0) hK hP rfl rfl, fun U hU hW => c_pre (wc := [(mo, .inr (4, [.ref nb, .ref un, .ref ov, .ref xx, .ref dc, .int (iI (zl)), .int (iI (th)), .long (ma), .int (iI (pw)), .int (iI (zk))])), (nb, .inr (3, [.ref nd, .int (iI (((dl X : Nat) : Int))), .int (iI (pt))])), (nd, .inl (cB, 4200, .inl d))]) (eX_X t5 ad) hE hK hP hD hS hA [0, 1, 2] rfl (by decide) U hU hW⟩ rfl rfl hl.1 rfl (lv_room (Nat.le_of_ble_eq_true rfl)) d_Mo_round_3 ⟨Nat.le_of_ble_eq_true rfl, Nat.le_of_ble_eq_true rfl⟩) hP hD hS hA [0, 1, 2] [] rfl rfl (by decide) (by decide) (fun r u H locs hp hP hD hS => ?_)
  obtain ⟨rfl, d3, hok, rfl⟩ := hp
  have hP : va_P D ecl [(mo, .inr (4, [.ref nb, .ref un, .ref ov, .ref xx, .ref dc, .int (iI (0)), .int (iI (0)), .long (ma), .int (iI (pw)), .int (iI (zk))])), (nb, .inr (3, [.ref nd, .int (iI (((dl (rz (X / 10 ^ (dl X - j) + 1)) : Nat) : Int))), .int (iI (if (X / 10 ^ (dl X - j) + 1) = 10 ^ j then pt + 1 else pt))])), (nd, .inl (cB, 4200, .inl d3))] H := hP
  have hD : va_D A [(mo, .inr (4, [.ref nb, .ref un, .ref ov, .ref xx, .ref dc, .int (iI (0)), .int (iI (0)), .long (ma), .int (iI (pw)), .int (iI (zk))])), (nb, .inr (3, [.ref nd, .int (iI (((dl (rz (X / 10 ^ (dl X - j) + 1)) : Nat) : Int))), .int (iI (if (X / 10 ^ (dl X - j) + 1) = 10 ^ j then pt + 1 else pt))])), (nd, .inl (cB, 4200, .inl d3))] := hD
  exact W.iret (v := (iI (((dl (rz (X / 10 ^ (dl X - j) + 1)) : Nat) : Int)))) hx hb hr (fun t9 ht9 hW9 => ⟨⟨(iI (((dl (rz (X / 10 ^ (dl X - j) + 1)) : Nat) : Int))), [(mo, .inr (4, [.ref nb, .ref un, .ref ov, .ref xx, .ref dc, .int (iI (0)), .int (iI (0)), .long (ma), .int (iI (pw)), .int (iI (zk))])), (nb, .inr (3, [.ref nd, .int (iI (((dl (rz (X / 10 ^ (dl X - j) + 1)) : Nat) : Int))), .int (iI (if (X / 10 ^ (dl X - j) + 1) = 10 ^ j then pt + 1 else pt))])), (nd, .inl (cB, 4200, .inl d3))], rfl, ⟨rfl, d3, hok, rfl⟩, by rw [ht9]; exact hP, hD⟩, hS.F ht9⟩) hS.2.2 d_Mo_round_6
set_option maxHeartbeats 4000000 in
set_option maxRecDepth 100000 in
theorem c_Mo_cut (l : Launch) (D : va_G) (cB cI cJ : ClassId) (t5 : Nat) (ad : Nat → Nat) (mo nb nd un ov xx dc : Nat) (d : Nat → Int32) (pt zl th pw zk : Int) (ma : Int64) (n : Int) (X : Nat) (hnm : nm_ok d X) (hpt : -9000000 ≤ pt ∧ pt ≤ 9000000) (h0 : X = 0 → pt = 0) (hk : -2000 ≤ n ∧ n ≤ 2000) : c_I l m_Mo_cut (Cond.code m_Mo_cut b_Mo_cut 2 (some .int) :: gw) (rm_ 3 115) (eX t5 ad) D ecl (tyS cB cI cJ) [.ref mo, .int (iI (n))] [(mo, .inr (4, [.ref nb, .ref un, .ref ov, .ref xx, .ref dc, .int (iI (zl)), .int (iI (th)), .long (ma), .int (iI (pw)), .int (iI (zk))])), (nb, .inr (3, [.ref nd, .int (iI (((dl X : Nat) : Int))), .int (iI (pt))])), (nd, .inl (cB, 4200, .inl d))] (fun r u => r = iI ((dl (rz (kfY X (pt + n))) : Nat) : Int) ∧ nm_ok d (rz (kfY X (pt + n))) ∧ u = [(mo, .inr (4, [.ref nb, .ref un, .ref ov, .ref xx, .ref dc, .int (iI (0)), .int (iI (0)), .long (ma), .int (iI (pw)), .int (iI (zk))])), (nb, .inr (3, [.ref nd, .int (iI (((dl (rz (kfY X (pt + n))) : Nat) : Int))), .int (iI (if (kfY X (pt + n)) = 0 then 0 else pt))])), (nd, .inl (cB, 4200, .inl d))]) 0 0 := by
  intro sz0
  refine Met.ofW (cc := b_Mo_cut) (maxL := 2) (ret := (some .int)) (by decide) rfl ?_
  intro p e s m args below meth c s₁ B hml hv
  obtain ⟨rfl, hsz, hP, hK, hD0, hE⟩ := hv
  have hx := B.exec
  have hb := B.bytes
  have hr := B.returns
  have hts := atoms_spec (ws := Cond.code m_Mo_cut b_Mo_cut 2 (some .int) :: gw) B.pre
  have hown : s.vm.findClass R_Mo = some m.cls := findClass_of_methodNamed B.named
  have hlocks := B.notSynchronized
  subst hsz
  have hD := hD0.self (sz := s.heap.size)
  generalize hAe : va_A [(mo, .inr (4, [.ref nb, .ref un, .ref ov, .ref xx, .ref dc, .int (iI (zl)), .int (iI (th)), .long (ma), .int (iI (pw)), .int (iI (zk))])), (nb, .inr (3, [.ref nd, .int (iI (((dl X : Nat) : Int))), .int (iI (pt))])), (nd, .inl (cB, 4200, .inl d))] s.heap.size = A at hD hE ⊢
  have hA : ∀ q : Nat, s.heap.size ≤ q → A q := fun q h => by rw [← hAe]; exact Or.inr h
  have hS : va_S A s.heap s.heap [] := va_S.rf
  have hl := lv_entry ([.ref mo, .int (iI (n))]) (n := 2) (Nat.le_of_ble_eq_true rfl)
  rw [lg_entry_eq]
  generalize (lg_sl ([.ref mo, .int (iI (n))]) ++ List.replicate (2 - (lg_sl ([.ref mo, .int (iI (n))])).length) Slot.unset).toArray = ls at hl ⊢
  have hl : lv_has ls 2 [(0, .ref mo), (1, .int (iI (n)))] := hl
  refine lv_aload_n hx hb d_Mo_cut_0 rfl (lv_at hl 0 rfl) ?_
  refine lv_iload_n hx hb d_Mo_cut_1 rfl (lv_at hl 1 rfl) ?_
  refine lv_iconst (v := iI 0) hx hb d_Mo_cut_2 rfl ?_
  refine c_fi (wc := [(mo, .inr (4, [.ref nb, .ref un, .ref ov, .ref xx, .ref dc, .int (iI (zl)), .int (iI (th)), .long (ma), .int (iI (pw)), .int (iI (zk))])), (nb, .inr (3, [.ref nd, .int (iI (((dl X : Nat) : Int))), .int (iI (pt))])), (nd, .inl (cB, 4200, .inl d))]) (wr := []) (va_runV (C := "ExactDigitsModel") (As := [.int (iI (n)), .int (iI (0))]) (rest := []) ⟨hx, hb, hml, hown, hts⟩ (c_Mo_ended l D cB cI cJ t5 ad mo nb nd un ov xx dc d pt zl th pw zk ma n 0 X hnm hpt h0 hk (by omega) (Or.inl rfl) s.heap.size) (cwV 2 hts (gV tw_515 tw_517 ts_19 tw_3 tw_518) rfl rfl rfl (by decide +kernel) ⟨Nat.le_of_ble_eq_true rfl, Nat.le_of_ble_eq_true rfl⟩) ⟨c_blind (eX_X t5 ad), va_recv (ci := 4) (q0 := 0) hK hP rfl rfl, fun U hU hW => c_pre (wc := [(mo, .inr (4, [.ref nb, .ref un, .ref ov, .ref xx, .ref dc, .int (iI (zl)), .int (iI (th)), .long (ma), .int (iI (pw)), .int (iI (zk))])), (nb, .inr (3, [.ref nd, .int (iI (((dl X : Nat) : Int))), .int (iI (pt))])), (nd, .inl (cB, 4200, .inl d))]) (eX_X t5 ad) hE hK hP hD hS hA [0, 1, 2] rfl (by decide) U hU hW⟩ rfl rfl hl.1 rfl (lv_room (Nat.le_of_ble_eq_true rfl)) d_Mo_cut_3 ⟨Nat.le_of_ble_eq_true rfl, Nat.le_of_ble_eq_true rfl⟩) hP hD hS hA [0, 1, 2] [] rfl rfl (by decide) (by decide) (fun r u H locs hp hP hD hS => ?_)
  obtain ⟨rfl, hok, rfl⟩ := hp
  have hP : va_P D ecl [(mo, .inr (4, [.ref nb, .ref un, .ref ov, .ref xx, .ref dc, .int (iI (0)), .int (iI (0)), .long (ma), .int (iI (pw)), .int (iI (zk))])), (nb, .inr (3, [.ref nd, .int (iI (((dl (rz (kfY X (pt + n))) : Nat) : Int))), .int (iI (if (kfY X (pt + n)) = 0 then 0 else pt))])), (nd, .inl (cB, 4200, .inl d))] H := hP
  have hD : va_D A [(mo, .inr (4, [.ref nb, .ref un, .ref ov, .ref xx, .ref dc, .int (iI (0)), .int (iI (0)), .long (ma), .int (iI (pw)), .int (iI (zk))])), (nb, .inr (3, [.ref nd, .int (iI (((dl (rz (kfY X (pt + n))) : Nat) : Int))), .int (iI (if (kfY X (pt + n)) = 0 then 0 else pt))])), (nd, .inl (cB, 4200, .inl d))] := hD
  exact W.iret (v := (iI (((dl (rz (kfY X (pt + n))) : Nat) : Int)))) hx hb hr (fun t9 ht9 hW9 => ⟨⟨(iI (((dl (rz (kfY X (pt + n))) : Nat) : Int))), [(mo, .inr (4, [.ref nb, .ref un, .ref ov, .ref xx, .ref dc, .int (iI (0)), .int (iI (0)), .long (ma), .int (iI (pw)), .int (iI (zk))])), (nb, .inr (3, [.ref nd, .int (iI (((dl (rz (kfY X (pt + n))) : Nat) : Int))), .int (iI (if (kfY X (pt + n)) = 0 then 0 else pt))])), (nd, .inl (cB, 4200, .inl d))], rfl, ⟨rfl, hok, rfl⟩, by rw [ht9]; exact hP, hD⟩, hS.F ht9⟩) hS.2.2 d_Mo_cut_6
set_option maxHeartbeats 4000000 in
set_option maxRecDepth 100000 in
theorem c_Mo_cut_no (l : Launch) (D : va_G) (cB cI cJ : ClassId) (t5 : Nat) (ad : Nat → Nat) (mo nb nd un ov xx dc : Nat) (d : Nat → Int32) (pt zl th pw zk : Int) (ma : Int64) (X : Nat) (n : Int) (hk : iR n) (hm : n < -2000 ∨ 2000 < n) : c_I l m_Mo_cut (Cond.code m_Mo_cut b_Mo_cut 2 (some .int) :: gw) (rm_ 3 115) (eX t5 ad) D ecl (tyS cB cI cJ) [.ref mo, .int (iI (n))] [(mo, .inr (4, [.ref nb, .ref un, .ref ov, .ref xx, .ref dc, .int (iI (zl)), .int (iI (th)), .long (ma), .int (iI (pw)), .int (iI (zk))])), (nb, .inr (3, [.ref nd, .int (iI (((dl X : Nat) : Int))), .int (iI (pt))])), (nd, .inl (cB, 4200, .inl d))] (fun r u => r = iI 0 ∧ u = [(mo, .inr (4, [.ref nb, .ref un, .ref ov, .ref xx, .ref dc, .int (iI (zl)), .int (iI (1)), .long (ma), .int (iI (pw)), .int (iI (zk))])), (nb, .inr (3, [.ref nd, .int (iI (((dl X : Nat) : Int))), .int (iI (pt))])), (nd, .inl (cB, 4200, .inl d))]) 0 0 := by
  intro sz0
  refine Met.ofW (cc := b_Mo_cut) (maxL := 2) (ret := (some .int)) (by decide) rfl ?_
  intro p e s m args below meth c s₁ B hml hv
  obtain ⟨rfl, hsz, hP, hK, hD0, hE⟩ := hv
  have hx := B.exec
  have hb := B.bytes
  have hr := B.returns
  have hts := atoms_spec (ws := Cond.code m_Mo_cut b_Mo_cut 2 (some .int) :: gw) B.pre
  have hown : s.vm.findClass R_Mo = some m.cls := findClass_of_methodNamed B.named
  have hlocks := B.notSynchronized
  subst hsz
  have hD := hD0.self (sz := s.heap.size)
  generalize hAe : va_A [(mo, .inr (4, [.ref nb, .ref un, .ref ov, .ref xx, .ref dc, .int (iI (zl)), .int (iI (th)), .long (ma), .int (iI (pw)), .int (iI (zk))])), (nb, .inr (3, [.ref nd, .int (iI (((dl X : Nat) : Int))), .int (iI (pt))])), (nd, .inl (cB, 4200, .inl d))] s.heap.size = A at hD hE ⊢
  have hA : ∀ q : Nat, s.heap.size ≤ q → A q := fun q h => by rw [← hAe]; exact Or.inr h
  have hS : va_S A s.heap s.heap [] := va_S.rf
  have hl := lv_entry ([.ref mo, .int (iI (n))]) (n := 2) (Nat.le_of_ble_eq_true rfl)
  rw [lg_entry_eq]
  generalize (lg_sl ([.ref mo, .int (iI (n))]) ++ List.replicate (2 - (lg_sl ([.ref mo, .int (iI (n))])).length) Slot.unset).toArray = ls at hl ⊢
  have hl : lv_has ls 2 [(0, .ref mo), (1, .int (iI (n)))] := hl
  refine lv_aload_n hx hb d_Mo_cut_0 rfl (lv_at hl 0 rfl) ?_
  refine lv_iload_n hx hb d_Mo_cut_1 rfl (lv_at hl 1 rfl) ?_
  refine lv_iconst (v := iI 0) hx hb d_Mo_cut_2 rfl ?_
  refine c_fi (wc := [(mo, .inr (4, [.ref nb, .ref un, .ref ov, .ref xx, .ref dc, .int (iI (zl)), .int (iI (th)), .long (ma), .int (iI (pw)), .int (iI (zk))])), (nb, .inr (3, [.ref nd, .int (iI (((dl X : Nat) : Int))), .int (iI (pt))])), (nd, .inl (cB, 4200, .inl d))]) (wr := []) (va_runV (C := "ExactDigitsModel") (As := [.int (iI (n)), .int (iI (0))]) (rest := []) ⟨hx, hb, hml, hown, hts⟩ (c_Mo_ended_no l D cB cI cJ t5 ad mo nb nd un ov xx dc d pt zl th pw zk ma X n 0 hk hm s.heap.size) (cwV 2 hts (gV tw_515 tw_517 ts_19 tw_3 tw_518) rfl rfl rfl (by decide +kernel) ⟨Nat.le_of_ble_eq_true rfl, Nat.le_of_ble_eq_true rfl⟩) ⟨c_blind (eX_X t5 ad), va_recv (ci := 4) (q0 := 0) hK hP rfl rfl, fun U hU hW => c_pre (wc := [(mo, .inr (4, [.ref nb, .ref un, .ref ov, .ref xx, .ref dc, .int (iI (zl)), .int (iI (th)), .long (ma), .int (iI (pw)), .int (iI (zk))])), (nb, .inr (3, [.ref nd, .int (iI (((dl X : Nat) : Int))), .int (iI (pt))])), (nd, .inl (cB, 4200, .inl d))]) (eX_X t5 ad) hE hK hP hD hS hA [0, 1, 2] rfl (by decide) U hU hW⟩ rfl rfl hl.1 rfl (lv_room (Nat.le_of_ble_eq_true rfl)) d_Mo_cut_3 ⟨Nat.le_of_ble_eq_true rfl, Nat.le_of_ble_eq_true rfl⟩) hP hD hS hA [0, 1, 2] [] rfl rfl (by decide) (by decide) (fun r u H locs hp hP hD hS => ?_)
  obtain ⟨rfl, rfl⟩ := hp
  have hP : va_P D ecl [(mo, .inr (4, [.ref nb, .ref un, .ref ov, .ref xx, .ref dc, .int (iI (zl)), .int (iI (1)), .long (ma), .int (iI (pw)), .int (iI (zk))])), (nb, .inr (3, [.ref nd, .int (iI (((dl X : Nat) : Int))), .int (iI (pt))])), (nd, .inl (cB, 4200, .inl d))] H := hP
  have hD : va_D A [(mo, .inr (4, [.ref nb, .ref un, .ref ov, .ref xx, .ref dc, .int (iI (zl)), .int (iI (1)), .long (ma), .int (iI (pw)), .int (iI (zk))])), (nb, .inr (3, [.ref nd, .int (iI (((dl X : Nat) : Int))), .int (iI (pt))])), (nd, .inl (cB, 4200, .inl d))] := hD
  exact W.iret (v := (iI (0))) hx hb hr (fun t9 ht9 hW9 => ⟨⟨(iI (0)), [(mo, .inr (4, [.ref nb, .ref un, .ref ov, .ref xx, .ref dc, .int (iI (zl)), .int (iI (1)), .long (ma), .int (iI (pw)), .int (iI (zk))])), (nb, .inr (3, [.ref nd, .int (iI (((dl X : Nat) : Int))), .int (iI (pt))])), (nd, .inl (cB, 4200, .inl d))], rfl, ⟨rfl, rfl⟩, by rw [ht9]; exact hP, hD⟩, hS.F ht9⟩) hS.2.2 d_Mo_cut_6
set_option maxHeartbeats 4000000 in
set_option maxRecDepth 100000 in
theorem c_Mo_digit (l : Launch) (D : va_G) (cB cI cJ : ClassId) (t5 : Nat) (ad : Nat → Nat) (mo nb nd un ov xx dc : Nat) (d : Nat → Int32) (pt zl th pw zk : Int) (ma : Int64) (k : Int) (X : Nat) (hn : nm_ok d X) (hpt : -9000000 ≤ pt ∧ pt ≤ 9000000) (hk : iR k) : c_I l m_Mo_digit (Cond.code m_Mo_digit b_Mo_digit 4 (some .int) :: gw) (rm_ 0 0) (eX t5 ad) D ecl (tyS cB cI cJ) [.ref mo, .int (iI (k))] [(mo, .inr (4, [.ref nb, .ref un, .ref ov, .ref xx, .ref dc, .int (iI (zl)), .int (iI (th)), .long (ma), .int (iI (pw)), .int (iI (zk))])), (nb, .inr (3, [.ref nd, .int (iI (((dl X : Nat) : Int))), .int (iI (pt))])), (nd, .inl (cB, 4200, .inl d))] (fun r u => r = iI (dgs X pt k) ∧ u = [(mo, .inr (4, [.ref nb, .ref un, .ref ov, .ref xx, .ref dc, .int (iI (zl)), .int (iI (0)), .long (ma), .int (iI (pw)), .int (iI (zk))])), (nb, .inr (3, [.ref nd, .int (iI (((dl X : Nat) : Int))), .int (iI (pt))])), (nd, .inl (cB, 4200, .inl d))]) 0 0 := by
  intro sz0
  refine Met.ofW (cc := b_Mo_digit) (maxL := 4) (ret := (some .int)) (by decide) rfl ?_
  intro p e s m args below meth c s₁ B hml hv
  obtain ⟨rfl, hsz, hP, hK, hD0, hE⟩ := hv
  have hx := B.exec
  have hb := B.bytes
  have hr := B.returns
  have hts := atoms_spec (ws := Cond.code m_Mo_digit b_Mo_digit 4 (some .int) :: gw) B.pre
  have hown : s.vm.findClass R_Mo = some m.cls := findClass_of_methodNamed B.named
  have hlocks := B.notSynchronized
  subst hsz
  have hD := hD0.self (sz := s.heap.size)
  generalize hAe : va_A [(mo, .inr (4, [.ref nb, .ref un, .ref ov, .ref xx, .ref dc, .int (iI (zl)), .int (iI (th)), .long (ma), .int (iI (pw)), .int (iI (zk))])), (nb, .inr (3, [.ref nd, .int (iI (((dl X : Nat) : Int))), .int (iI (pt))])), (nd, .inl (cB, 4200, .inl d))] s.heap.size = A at hD hE ⊢
  have hA : ∀ q : Nat, s.heap.size ≤ q → A q := fun q h => by rw [← hAe]; exact Or.inr h
  have hS : va_S A s.heap s.heap [] := va_S.rf
  have hl := lv_entry ([.ref mo, .int (iI (k))]) (n := 4) (Nat.le_of_ble_eq_true rfl)
  rw [lg_entry_eq]
  generalize (lg_sl ([.ref mo, .int (iI (k))]) ++ List.replicate (4 - (lg_sl ([.ref mo, .int (iI (k))])).length) Slot.unset).toArray = ls at hl ⊢
  have hl : lv_has ls 4 [(0, .ref mo), (1, .int (iI (k)))] := hl
  obtain ⟨hn1, hn2, hn3⟩ := hn
  refine lv_aload_n hx hb d_Mo_digit_0 rfl (lv_at hl 0 rfl) ?_
  refine lv_iconst (v := iI 0) hx hb d_Mo_digit_1 rfl ?_
  refine va_put (D := D) (ci := 4) (v := .int (iI (0))) (ty := .int) (C := R_Mo) (T := T_Mo) (N := 10) hx hb hts (fun w h => List.mem_cons_of_mem _ (in_Mo w h)) y_Mo t_Mo n_Mo hown hK hP hD hS 0 rfl rfl 6 (by decide) (hts _ (List.mem_cons_of_mem _ tw_396)) (fun _ h9 => h9) rfl (by decide +kernel) rfl rfl (Nat.le_of_ble_eq_true rfl) d_Mo_digit_2 (fun H locs hP hD hS => ?_)
  have hP : va_P D ecl [(mo, .inr (4, [.ref nb, .ref un, .ref ov, .ref xx, .ref dc, .int (iI (zl)), .int (iI (0)), .long (ma), .int (iI (pw)), .int (iI (zk))])), (nb, .inr (3, [.ref nd, .int (iI (((dl X : Nat) : Int))), .int (iI (pt))])), (nd, .inl (cB, 4200, .inl d))] H := hP
  have hD : va_D A [(mo, .inr (4, [.ref nb, .ref un, .ref ov, .ref xx, .ref dc, .int (iI (zl)), .int (iI (0)), .long (ma), .int (iI (pw)), .int (iI (zk))])), (nb, .inr (3, [.ref nd, .int (iI (((dl X : Nat) : Int))), .int (iI (pt))])), (nd, .inl (cB, 4200, .inl d))] := hD
  refine lv_iload_n hx hb d_Mo_digit_5 rfl (lv_at hl 1 rfl) ?_
  refine ed_i2l hx hb d_Mo_digit_6 (by omega) ?_
  refine lv_aload_n hx hb d_Mo_digit_7 rfl (lv_at hl 0 rfl) ?_
  refine va_get (D := D) (ci := 4) (v := .ref nb) (C := R_Mo) (T := T_Mo) (N := 10) hx hb hts (fun w h => List.mem_cons_of_mem _ (in_Mo w h)) hown hK hP 0 rfl rfl 0 (by decide) (hts _ (List.mem_cons_of_mem _ tw_390)) (fun _ h9 => h9) rfl d_Mo_digit_8 ?_
  refine ed_pc (pc' := 11) rfl ?_
  refine va_get (D := D) (ci := 3) (v := .int (iI (pt))) (C := R_Ro) (T := T_Ro) (N := 3) hx hb hts (fun w h => List.mem_cons_of_mem _ (in_Ro w h)) hown hK hP 1 rfl rfl 2 (by decide) (hts _ (List.mem_cons_of_mem _ tw_364)) (fun _ h9 => h9) rfl d_Mo_digit_11 ?_
  refine ed_i2l hx hb d_Mo_digit_14 (by omega) ?_
  refine ed_ladd hx hb d_Mo_digit_15 ?_
  refine lv_lstore_n hx hb d_Mo_digit_16 rfl hl (by decide) rfl (fun ls hl => ?_)
  have hl : lv_has ls 4 [(2, .long (jI ((k) + (pt)))), (0, .ref mo), (1, .int (iI (k)))] := hl
  refine lv_lload_n hx hb d_Mo_digit_17 rfl (lv_at hl 0 rfl) ?_
  refine lv_lconst (v := jI 0) hx hb d_Mo_digit_18 (by decide +kernel) ?_
  refine ed_lif_lt (tgt := 36) hx hb d_Mo_digit_19 d_Mo_digit_20 rfl (by omega) (by omega) (fun h_1 => ?_) (fun h_1 => ?_)
  · skip
    refine ed_pc (pc' := 36) rfl ?_
    have hd0 : dgs X pt k = 0 := by unfold dgs; rw [if_neg (by omega)]
    refine lv_iconst (v := iI 0) hx hb d_Mo_digit_36 rfl ?_
    refine ed_pc (pc' := 37) rfl ?_
    refine lv_goto (tgt := 50) hx hb d_Mo_digit_37 rfl ?_
    exact W.iret (v := (iI (0))) hx hb hr (fun t9 ht9 hW9 => ⟨⟨(iI (0)), [(mo, .inr (4, [.ref nb, .ref un, .ref ov, .ref xx, .ref dc, .int (iI (zl)), .int (iI (0)), .long (ma), .int (iI (pw)), .int (iI (zk))])), (nb, .inr (3, [.ref nd, .int (iI (((dl X : Nat) : Int))), .int (iI (pt))])), (nd, .inl (cB, 4200, .inl d))], rfl, ⟨by rw [hd0], rfl⟩, by rw [ht9]; exact hP, hD⟩, hS.F ht9⟩) hS.2.2 d_Mo_digit_50
  · skip
    refine ed_pc (pc' := 23) rfl ?_
    refine lv_lload_n hx hb d_Mo_digit_23 rfl (lv_at hl 0 rfl) ?_
    refine ed_pc (pc' := 24) rfl ?_
    refine lv_aload_n hx hb d_Mo_digit_24 rfl (lv_at hl 1 rfl) ?_
    refine va_get (D := D) (ci := 4) (v := .ref nb) (C := R_Mo) (T := T_Mo) (N := 10) hx hb hts (fun w h => List.mem_cons_of_mem _ (in_Mo w h)) hown hK hP 0 rfl rfl 0 (by decide) (hts _ (List.mem_cons_of_mem _ tw_390)) (fun _ h9 => h9) rfl d_Mo_digit_25 ?_
    refine va_get (D := D) (ci := 3) (v := .int (iI (((dl X : Nat) : Int)))) (C := R_Ro) (T := T_Ro) (N := 3) hx hb hts (fun w h => List.mem_cons_of_mem _ (in_Ro w h)) hown hK hP 1 rfl rfl 1 (by decide) (hts _ (List.mem_cons_of_mem _ tw_362)) (fun _ h9 => h9) rfl d_Mo_digit_28 ?_
    refine ed_i2l hx hb d_Mo_digit_31 (by omega) ?_
    refine ed_lif_lt (tgt := 40) hx hb d_Mo_digit_32 d_Mo_digit_33 rfl (by omega) (by omega) (fun h_2 => ?_) (fun h_2 => ?_)
    · skip
      refine ed_pc (pc' := 40) rfl ?_
      refine lv_aload_n hx hb d_Mo_digit_40 rfl (lv_at hl 1 rfl) ?_
      refine va_get (D := D) (ci := 4) (v := .ref nb) (C := R_Mo) (T := T_Mo) (N := 10) hx hb hts (fun w h => List.mem_cons_of_mem _ (in_Mo w h)) hown hK hP 0 rfl rfl 0 (by decide) (hts _ (List.mem_cons_of_mem _ tw_390)) (fun _ h9 => h9) rfl d_Mo_digit_41 ?_
      refine va_get (D := D) (ci := 3) (v := .ref nd) (C := R_Ro) (T := T_Ro) (N := 3) hx hb hts (fun w h => List.mem_cons_of_mem _ (in_Ro w h)) hown hK hP 1 rfl rfl 0 (by decide) (hts _ (List.mem_cons_of_mem _ tw_360)) (fun _ h9 => h9) rfl d_Mo_digit_44 ?_
      refine ed_pc (pc' := 47) rfl ?_
      refine lv_lload_n hx hb d_Mo_digit_47 rfl (lv_at hl 0 rfl) ?_
      refine ed_l2i hx hb d_Mo_digit_48 ?_
      refine ed_bald (y := dgs X pt k) hx hb hK hP 2 0 rfl rfl ((pt + k).toNat) (by omega) (by omega) (by decide) (by unfold dgs; rw [if_pos (by omega)]; exact hn3 _ (by omega)) d_Mo_digit_49 ?_
      exact W.iret (v := (iI (dgs X pt k))) hx hb hr (fun t9 ht9 hW9 => ⟨⟨(iI (dgs X pt k)), [(mo, .inr (4, [.ref nb, .ref un, .ref ov, .ref xx, .ref dc, .int (iI (zl)), .int (iI (0)), .long (ma), .int (iI (pw)), .int (iI (zk))])), (nb, .inr (3, [.ref nd, .int (iI (((dl X : Nat) : Int))), .int (iI (pt))])), (nd, .inl (cB, 4200, .inl d))], rfl, ⟨rfl, rfl⟩, by rw [ht9]; exact hP, hD⟩, hS.F ht9⟩) hS.2.2 d_Mo_digit_50
    · skip
      refine ed_pc (pc' := 36) rfl ?_
      have hd0 : dgs X pt k = 0 := by unfold dgs; rw [if_neg (by omega)]
      refine lv_iconst (v := iI 0) hx hb d_Mo_digit_36 rfl ?_
      refine lv_goto (tgt := 50) hx hb d_Mo_digit_37 rfl ?_
      exact W.iret (v := (iI (0))) hx hb hr (fun t9 ht9 hW9 => ⟨⟨(iI (0)), [(mo, .inr (4, [.ref nb, .ref un, .ref ov, .ref xx, .ref dc, .int (iI (zl)), .int (iI (0)), .long (ma), .int (iI (pw)), .int (iI (zk))])), (nb, .inr (3, [.ref nd, .int (iI (((dl X : Nat) : Int))), .int (iI (pt))])), (nd, .inl (cB, 4200, .inl d))], rfl, ⟨by rw [hd0], rfl⟩, by rw [ht9]; exact hP, hD⟩, hS.F ht9⟩) hS.2.2 d_Mo_digit_50
set_option maxHeartbeats 4000000 in
set_option maxRecDepth 100000 in
theorem c_Mo_told (l : Launch) (D : va_G) (cB cI cJ : ClassId) (t5 : Nat) (ad : Nat → Nat) (mo nb nd un ov xx dc : Nat) (d : Nat → Int32) (pt zl th pw zk : Int) (ma : Int64) (k : Int) (X : Nat) (hk3 : k = 0 ∨ k = 1 ∨ k = 2) (hzl : zl = 0 ∨ zl = 1) : c_I l m_Mo_told (Cond.code m_Mo_told b_Mo_told 2 (some .int) :: gw) (rm_ 0 0) (eX t5 ad) D ecl (tyS cB cI cJ) [.ref mo, .int (iI (k))] [(mo, .inr (4, [.ref nb, .ref un, .ref ov, .ref xx, .ref dc, .int (iI (zl)), .int (iI (th)), .long (ma), .int (iI (pw)), .int (iI (zk))])), (nb, .inr (3, [.ref nd, .int (iI (((dl X : Nat) : Int))), .int (iI (pt))])), (nd, .inl (cB, 4200, .inl d))] (fun r u => r = iI (if k = 0 then ((dl X : Nat) : Int) else if k = 1 then pt else zl) ∧ u = [(mo, .inr (4, [.ref nb, .ref un, .ref ov, .ref xx, .ref dc, .int (iI (zl)), .int (iI (0)), .long (ma), .int (iI (pw)), .int (iI (zk))])), (nb, .inr (3, [.ref nd, .int (iI (((dl X : Nat) : Int))), .int (iI (pt))])), (nd, .inl (cB, 4200, .inl d))]) 0 0 := by
  intro sz0
  refine Met.ofW (cc := b_Mo_told) (maxL := 2) (ret := (some .int)) (by decide) rfl ?_
  intro p e s m args below meth c s₁ B hml hv
  obtain ⟨rfl, hsz, hP, hK, hD0, hE⟩ := hv
  have hx := B.exec
  have hb := B.bytes
  have hr := B.returns
  have hts := atoms_spec (ws := Cond.code m_Mo_told b_Mo_told 2 (some .int) :: gw) B.pre
  have hown : s.vm.findClass R_Mo = some m.cls := findClass_of_methodNamed B.named
  have hlocks := B.notSynchronized
  subst hsz
  have hD := hD0.self (sz := s.heap.size)
  generalize hAe : va_A [(mo, .inr (4, [.ref nb, .ref un, .ref ov, .ref xx, .ref dc, .int (iI (zl)), .int (iI (th)), .long (ma), .int (iI (pw)), .int (iI (zk))])), (nb, .inr (3, [.ref nd, .int (iI (((dl X : Nat) : Int))), .int (iI (pt))])), (nd, .inl (cB, 4200, .inl d))] s.heap.size = A at hD hE ⊢
  have hA : ∀ q : Nat, s.heap.size ≤ q → A q := fun q h => by rw [← hAe]; exact Or.inr h
  have hS : va_S A s.heap s.heap [] := va_S.rf
  have hl := lv_entry ([.ref mo, .int (iI (k))]) (n := 2) (Nat.le_of_ble_eq_true rfl)
  rw [lg_entry_eq]
  generalize (lg_sl ([.ref mo, .int (iI (k))]) ++ List.replicate (2 - (lg_sl ([.ref mo, .int (iI (k))])).length) Slot.unset).toArray = ls at hl ⊢
  have hl : lv_has ls 2 [(0, .ref mo), (1, .int (iI (k)))] := hl
  refine lv_aload_n hx hb d_Mo_told_0 rfl (lv_at hl 0 rfl) ?_
  refine lv_iload_n hx hb d_Mo_told_1 rfl (lv_at hl 1 rfl) ?_
  refine ed_if_lt (tgt := 10) hx hb d_Mo_told_2 rfl (by omega) (fun h_1 => ?_) (fun h_1 => ?_)
  · exact absurd h_1 (by omega)
  · skip
    refine ed_pc (pc' := 5) rfl ?_
    refine lv_iload_n hx hb d_Mo_told_5 rfl (lv_at hl 1 rfl) ?_
    refine lv_iconst (v := iI 2) hx hb d_Mo_told_6 rfl ?_
    refine ed_icmp_le (tgt := 14) hx hb d_Mo_told_7 rfl (by omega) (by omega) (fun h_2 => ?_) (fun h_2 => ?_)
    · skip
      refine ed_pc (pc' := 14) rfl ?_
      refine lv_iconst (v := iI 0) hx hb d_Mo_told_14 rfl ?_
      refine ed_pc (pc' := 15) rfl ?_
      refine va_put (D := D) (ci := 4) (v := .int (iI (0))) (ty := .int) (C := R_Mo) (T := T_Mo) (N := 10) hx hb hts (fun w h => List.mem_cons_of_mem _ (in_Mo w h)) y_Mo t_Mo n_Mo hown hK hP hD hS 0 rfl rfl 6 (by decide) (hts _ (List.mem_cons_of_mem _ tw_396)) (fun _ h9 => h9) rfl (by decide +kernel) rfl rfl (Nat.le_of_ble_eq_true rfl) d_Mo_told_15 (fun H locs hP hD hS => ?_)
      have hP : va_P D ecl [(mo, .inr (4, [.ref nb, .ref un, .ref ov, .ref xx, .ref dc, .int (iI (zl)), .int (iI (0)), .long (ma), .int (iI (pw)), .int (iI (zk))])), (nb, .inr (3, [.ref nd, .int (iI (((dl X : Nat) : Int))), .int (iI (pt))])), (nd, .inl (cB, 4200, .inl d))] H := hP
      have hD : va_D A [(mo, .inr (4, [.ref nb, .ref un, .ref ov, .ref xx, .ref dc, .int (iI (zl)), .int (iI (0)), .long (ma), .int (iI (pw)), .int (iI (zk))])), (nb, .inr (3, [.ref nd, .int (iI (((dl X : Nat) : Int))), .int (iI (pt))])), (nd, .inl (cB, 4200, .inl d))] := hD
      refine lv_aload_n hx hb d_Mo_told_18 rfl (lv_at hl 0 rfl) ?_
      refine va_get (D := D) (ci := 4) (v := .int (iI (0))) (C := R_Mo) (T := T_Mo) (N := 10) hx hb hts (fun w h => List.mem_cons_of_mem _ (in_Mo w h)) hown hK hP 0 rfl rfl 6 (by decide) (hts _ (List.mem_cons_of_mem _ tw_396)) (fun _ h9 => h9) rfl d_Mo_told_19 ?_
      refine ed_if_le (tgt := 27) hx hb d_Mo_told_22 rfl (by omega) (fun h_3 => ?_) (fun h_3 => ?_)
      · skip
        refine ed_pc (pc' := 27) rfl ?_
        refine lv_iload_n hx hb d_Mo_told_27 rfl (lv_at hl 1 rfl) ?_
        refine ed_if_ne (tgt := 41) hx hb d_Mo_told_28 rfl (by omega) (fun h_4 => ?_) (fun h_4 => ?_)
        · skip
          refine ed_pc (pc' := 41) rfl ?_
          refine lv_iload_n hx hb d_Mo_told_41 rfl (lv_at hl 1 rfl) ?_
          refine lv_iconst (v := iI 1) hx hb d_Mo_told_42 rfl ?_
          refine ed_pc (pc' := 43) rfl ?_
          refine ed_icmp_ne (tgt := 56) hx hb d_Mo_told_43 rfl (by omega) (by omega) (fun h_5 => ?_) (fun h_5 => ?_)
          · skip
            refine ed_pc (pc' := 56) rfl ?_
            refine lv_aload_n hx hb d_Mo_told_56 rfl (lv_at hl 0 rfl) ?_
            refine va_get (D := D) (ci := 4) (v := .int (iI (zl))) (C := R_Mo) (T := T_Mo) (N := 10) hx hb hts (fun w h => List.mem_cons_of_mem _ (in_Mo w h)) hown hK hP 0 rfl rfl 5 (by decide) (hts _ (List.mem_cons_of_mem _ tw_395)) (fun _ h9 => h9) rfl d_Mo_told_57 ?_
            refine ed_if_eq (tgt := 67) hx hb d_Mo_told_60 rfl (by omega) (fun h_6 => ?_) (fun h_6 => ?_)
            · skip
              refine ed_pc (pc' := 67) rfl ?_
              refine lv_iconst (v := iI 0) hx hb d_Mo_told_67 rfl ?_
              exact W.iret (v := (iI (0))) hx hb hr (fun t9 ht9 hW9 => ⟨⟨(iI (0)), [(mo, .inr (4, [.ref nb, .ref un, .ref ov, .ref xx, .ref dc, .int (iI (zl)), .int (iI (0)), .long (ma), .int (iI (pw)), .int (iI (zk))])), (nb, .inr (3, [.ref nd, .int (iI (((dl X : Nat) : Int))), .int (iI (pt))])), (nd, .inl (cB, 4200, .inl d))], rfl, ⟨by rw [if_neg (by omega), if_neg (by omega), show zl = 0 by omega], rfl⟩, by rw [ht9]; exact hP, hD⟩, hS.F ht9⟩) hS.2.2 d_Mo_told_68
            · skip
              refine ed_pc (pc' := 63) rfl ?_
              refine lv_iconst (v := iI 1) hx hb d_Mo_told_63 rfl ?_
              refine lv_goto (tgt := 68) hx hb d_Mo_told_64 rfl ?_
              exact W.iret (v := (iI (1))) hx hb hr (fun t9 ht9 hW9 => ⟨⟨(iI (1)), [(mo, .inr (4, [.ref nb, .ref un, .ref ov, .ref xx, .ref dc, .int (iI (zl)), .int (iI (0)), .long (ma), .int (iI (pw)), .int (iI (zk))])), (nb, .inr (3, [.ref nd, .int (iI (((dl X : Nat) : Int))), .int (iI (pt))])), (nd, .inl (cB, 4200, .inl d))], rfl, ⟨by rw [if_neg (by omega), if_neg (by omega), show zl = 1 by omega], rfl⟩, by rw [ht9]; exact hP, hD⟩, hS.F ht9⟩) hS.2.2 d_Mo_told_68
          · skip
            refine ed_pc (pc' := 46) rfl ?_
            refine lv_aload_n hx hb d_Mo_told_46 rfl (lv_at hl 0 rfl) ?_
            refine va_get (D := D) (ci := 4) (v := .ref nb) (C := R_Mo) (T := T_Mo) (N := 10) hx hb hts (fun w h => List.mem_cons_of_mem _ (in_Mo w h)) hown hK hP 0 rfl rfl 0 (by decide) (hts _ (List.mem_cons_of_mem _ tw_390)) (fun _ h9 => h9) rfl d_Mo_told_47 ?_
            refine va_get (D := D) (ci := 3) (v := .int (iI (pt))) (C := R_Ro) (T := T_Ro) (N := 3) hx hb hts (fun w h => List.mem_cons_of_mem _ (in_Ro w h)) hown hK hP 1 rfl rfl 2 (by decide) (hts _ (List.mem_cons_of_mem _ tw_364)) (fun _ h9 => h9) rfl d_Mo_told_50 ?_
            refine lv_goto (tgt := 68) hx hb d_Mo_told_53 rfl ?_
            exact W.iret (v := (iI (pt))) hx hb hr (fun t9 ht9 hW9 => ⟨⟨(iI (pt)), [(mo, .inr (4, [.ref nb, .ref un, .ref ov, .ref xx, .ref dc, .int (iI (zl)), .int (iI (0)), .long (ma), .int (iI (pw)), .int (iI (zk))])), (nb, .inr (3, [.ref nd, .int (iI (((dl X : Nat) : Int))), .int (iI (pt))])), (nd, .inl (cB, 4200, .inl d))], rfl, ⟨by rw [if_neg (by omega), if_pos (by omega)], rfl⟩, by rw [ht9]; exact hP, hD⟩, hS.F ht9⟩) hS.2.2 d_Mo_told_68
        · skip
          refine ed_pc (pc' := 31) rfl ?_
          refine lv_aload_n hx hb d_Mo_told_31 rfl (lv_at hl 0 rfl) ?_
          refine va_get (D := D) (ci := 4) (v := .ref nb) (C := R_Mo) (T := T_Mo) (N := 10) hx hb hts (fun w h => List.mem_cons_of_mem _ (in_Mo w h)) hown hK hP 0 rfl rfl 0 (by decide) (hts _ (List.mem_cons_of_mem _ tw_390)) (fun _ h9 => h9) rfl d_Mo_told_32 ?_
          refine ed_pc (pc' := 35) rfl ?_
          refine va_get (D := D) (ci := 3) (v := .int (iI (((dl X : Nat) : Int)))) (C := R_Ro) (T := T_Ro) (N := 3) hx hb hts (fun w h => List.mem_cons_of_mem _ (in_Ro w h)) hown hK hP 1 rfl rfl 1 (by decide) (hts _ (List.mem_cons_of_mem _ tw_362)) (fun _ h9 => h9) rfl d_Mo_told_35 ?_
          refine lv_goto (tgt := 68) hx hb d_Mo_told_38 rfl ?_
          exact W.iret (v := (iI (((dl X : Nat) : Int)))) hx hb hr (fun t9 ht9 hW9 => ⟨⟨(iI (((dl X : Nat) : Int))), [(mo, .inr (4, [.ref nb, .ref un, .ref ov, .ref xx, .ref dc, .int (iI (zl)), .int (iI (0)), .long (ma), .int (iI (pw)), .int (iI (zk))])), (nb, .inr (3, [.ref nd, .int (iI (((dl X : Nat) : Int))), .int (iI (pt))])), (nd, .inl (cB, 4200, .inl d))], rfl, ⟨by rw [if_pos (by omega)], rfl⟩, by rw [ht9]; exact hP, hD⟩, hS.F ht9⟩) hS.2.2 d_Mo_told_68
      · exact absurd h_3 (by omega)
    · exact absurd h_2 (by omega)
set_option maxHeartbeats 4000000 in
set_option maxRecDepth 100000 in
theorem c_Mo_told_no (l : Launch) (D : va_G) (cB cI cJ : ClassId) (t5 : Nat) (ad : Nat → Nat) (mo nb nd un ov xx dc : Nat) (d : Nat → Int32) (pt zl th pw zk : Int) (ma : Int64) (X : Nat) (k : Int) (hk : iR k) (hk2 : k < 0 ∨ 2 < k) : c_I l m_Mo_told (Cond.code m_Mo_told b_Mo_told 2 (some .int) :: gw) (rm_ 0 0) (eX t5 ad) D ecl (tyS cB cI cJ) [.ref mo, .int (iI (k))] [(mo, .inr (4, [.ref nb, .ref un, .ref ov, .ref xx, .ref dc, .int (iI (zl)), .int (iI (th)), .long (ma), .int (iI (pw)), .int (iI (zk))])), (nb, .inr (3, [.ref nd, .int (iI (((dl X : Nat) : Int))), .int (iI (pt))])), (nd, .inl (cB, 4200, .inl d))] (fun r u => r = iI 0 ∧ u = [(mo, .inr (4, [.ref nb, .ref un, .ref ov, .ref xx, .ref dc, .int (iI (zl)), .int (iI (1)), .long (ma), .int (iI (pw)), .int (iI (zk))])), (nb, .inr (3, [.ref nd, .int (iI (((dl X : Nat) : Int))), .int (iI (pt))])), (nd, .inl (cB, 4200, .inl d))]) 0 0 := by
  intro sz0
  refine Met.ofW (cc := b_Mo_told) (maxL := 2) (ret := (some .int)) (by decide) rfl ?_
  intro p e s m args below meth c s₁ B hml hv
  obtain ⟨rfl, hsz, hP, hK, hD0, hE⟩ := hv
  have hx := B.exec
  have hb := B.bytes
  have hr := B.returns
  have hts := atoms_spec (ws := Cond.code m_Mo_told b_Mo_told 2 (some .int) :: gw) B.pre
  have hown : s.vm.findClass R_Mo = some m.cls := findClass_of_methodNamed B.named
  have hlocks := B.notSynchronized
  subst hsz
  have hD := hD0.self (sz := s.heap.size)
  generalize hAe : va_A [(mo, .inr (4, [.ref nb, .ref un, .ref ov, .ref xx, .ref dc, .int (iI (zl)), .int (iI (th)), .long (ma), .int (iI (pw)), .int (iI (zk))])), (nb, .inr (3, [.ref nd, .int (iI (((dl X : Nat) : Int))), .int (iI (pt))])), (nd, .inl (cB, 4200, .inl d))] s.heap.size = A at hD hE ⊢
  have hA : ∀ q : Nat, s.heap.size ≤ q → A q := fun q h => by rw [← hAe]; exact Or.inr h
  have hS : va_S A s.heap s.heap [] := va_S.rf
  have hl := lv_entry ([.ref mo, .int (iI (k))]) (n := 2) (Nat.le_of_ble_eq_true rfl)
  rw [lg_entry_eq]
  generalize (lg_sl ([.ref mo, .int (iI (k))]) ++ List.replicate (2 - (lg_sl ([.ref mo, .int (iI (k))])).length) Slot.unset).toArray = ls at hl ⊢
  have hl : lv_has ls 2 [(0, .ref mo), (1, .int (iI (k)))] := hl
  refine lv_aload_n hx hb d_Mo_told_0 rfl (lv_at hl 0 rfl) ?_
  refine lv_iload_n hx hb d_Mo_told_1 rfl (lv_at hl 1 rfl) ?_
  refine ed_if_lt (tgt := 10) hx hb d_Mo_told_2 rfl (by omega) (fun h_1 => ?_) (fun h_1 => ?_)
  · skip
    refine ed_pc (pc' := 10) rfl ?_
    refine lv_iconst (v := iI 1) hx hb d_Mo_told_10 rfl ?_
    refine lv_goto (tgt := 15) hx hb d_Mo_told_11 rfl ?_
    refine va_put (D := D) (ci := 4) (v := .int (iI (1))) (ty := .int) (C := R_Mo) (T := T_Mo) (N := 10) hx hb hts (fun w h => List.mem_cons_of_mem _ (in_Mo w h)) y_Mo t_Mo n_Mo hown hK hP hD hS 0 rfl rfl 6 (by decide) (hts _ (List.mem_cons_of_mem _ tw_396)) (fun _ h9 => h9) rfl (by decide +kernel) rfl rfl (Nat.le_of_ble_eq_true rfl) d_Mo_told_15 (fun H locs hP hD hS => ?_)
    have hP : va_P D ecl [(mo, .inr (4, [.ref nb, .ref un, .ref ov, .ref xx, .ref dc, .int (iI (zl)), .int (iI (1)), .long (ma), .int (iI (pw)), .int (iI (zk))])), (nb, .inr (3, [.ref nd, .int (iI (((dl X : Nat) : Int))), .int (iI (pt))])), (nd, .inl (cB, 4200, .inl d))] H := hP
    have hD : va_D A [(mo, .inr (4, [.ref nb, .ref un, .ref ov, .ref xx, .ref dc, .int (iI (zl)), .int (iI (1)), .long (ma), .int (iI (pw)), .int (iI (zk))])), (nb, .inr (3, [.ref nd, .int (iI (((dl X : Nat) : Int))), .int (iI (pt))])), (nd, .inl (cB, 4200, .inl d))] := hD
    refine lv_aload_n hx hb d_Mo_told_18 rfl (lv_at hl 0 rfl) ?_
    refine ed_pc (pc' := 19) rfl ?_
    refine va_get (D := D) (ci := 4) (v := .int (iI (1))) (C := R_Mo) (T := T_Mo) (N := 10) hx hb hts (fun w h => List.mem_cons_of_mem _ (in_Mo w h)) hown hK hP 0 rfl rfl 6 (by decide) (hts _ (List.mem_cons_of_mem _ tw_396)) (fun _ h9 => h9) rfl d_Mo_told_19 ?_
    refine ed_if_le (tgt := 27) hx hb d_Mo_told_22 rfl (by omega) (fun h_2 => ?_) (fun h_2 => ?_)
    · exact absurd h_2 (by omega)
    · skip
      refine ed_pc (pc' := 25) rfl ?_
      refine lv_iconst (v := iI 0) hx hb d_Mo_told_25 rfl ?_
      exact W.iret (v := (iI (0))) hx hb hr (fun t9 ht9 hW9 => ⟨⟨(iI (0)), [(mo, .inr (4, [.ref nb, .ref un, .ref ov, .ref xx, .ref dc, .int (iI (zl)), .int (iI (1)), .long (ma), .int (iI (pw)), .int (iI (zk))])), (nb, .inr (3, [.ref nd, .int (iI (((dl X : Nat) : Int))), .int (iI (pt))])), (nd, .inl (cB, 4200, .inl d))], rfl, ⟨rfl, rfl⟩, by rw [ht9]; exact hP, hD⟩, hS.F ht9⟩) hS.2.2 d_Mo_told_26
  · skip
    refine ed_pc (pc' := 5) rfl ?_
    refine lv_iload_n hx hb d_Mo_told_5 rfl (lv_at hl 1 rfl) ?_
    refine lv_iconst (v := iI 2) hx hb d_Mo_told_6 rfl ?_
    refine ed_icmp_le (tgt := 14) hx hb d_Mo_told_7 rfl (by omega) (by omega) (fun h_3 => ?_) (fun h_3 => ?_)
    · skip
      refine ed_pc (pc' := 14) rfl ?_
      exfalso; omega
    · skip
      refine ed_pc (pc' := 10) rfl ?_
      refine lv_iconst (v := iI 1) hx hb d_Mo_told_10 rfl ?_
      refine ed_pc (pc' := 11) rfl ?_
      refine lv_goto (tgt := 15) hx hb d_Mo_told_11 rfl ?_
      refine va_put (D := D) (ci := 4) (v := .int (iI (1))) (ty := .int) (C := R_Mo) (T := T_Mo) (N := 10) hx hb hts (fun w h => List.mem_cons_of_mem _ (in_Mo w h)) y_Mo t_Mo n_Mo hown hK hP hD hS 0 rfl rfl 6 (by decide) (hts _ (List.mem_cons_of_mem _ tw_396)) (fun _ h9 => h9) rfl (by decide +kernel) rfl rfl (Nat.le_of_ble_eq_true rfl) d_Mo_told_15 (fun H locs hP hD hS => ?_)
      have hP : va_P D ecl [(mo, .inr (4, [.ref nb, .ref un, .ref ov, .ref xx, .ref dc, .int (iI (zl)), .int (iI (1)), .long (ma), .int (iI (pw)), .int (iI (zk))])), (nb, .inr (3, [.ref nd, .int (iI (((dl X : Nat) : Int))), .int (iI (pt))])), (nd, .inl (cB, 4200, .inl d))] H := hP
      have hD : va_D A [(mo, .inr (4, [.ref nb, .ref un, .ref ov, .ref xx, .ref dc, .int (iI (zl)), .int (iI (1)), .long (ma), .int (iI (pw)), .int (iI (zk))])), (nb, .inr (3, [.ref nd, .int (iI (((dl X : Nat) : Int))), .int (iI (pt))])), (nd, .inl (cB, 4200, .inl d))] := hD
      refine lv_aload_n hx hb d_Mo_told_18 rfl (lv_at hl 0 rfl) ?_
      refine va_get (D := D) (ci := 4) (v := .int (iI (1))) (C := R_Mo) (T := T_Mo) (N := 10) hx hb hts (fun w h => List.mem_cons_of_mem _ (in_Mo w h)) hown hK hP 0 rfl rfl 6 (by decide) (hts _ (List.mem_cons_of_mem _ tw_396)) (fun _ h9 => h9) rfl d_Mo_told_19 ?_
      refine ed_if_le (tgt := 27) hx hb d_Mo_told_22 rfl (by omega) (fun h_4 => ?_) (fun h_4 => ?_)
      · exact absurd h_4 (by omega)
      · skip
        refine ed_pc (pc' := 25) rfl ?_
        refine lv_iconst (v := iI 0) hx hb d_Mo_told_25 rfl ?_
        exact W.iret (v := (iI (0))) hx hb hr (fun t9 ht9 hW9 => ⟨⟨(iI (0)), [(mo, .inr (4, [.ref nb, .ref un, .ref ov, .ref xx, .ref dc, .int (iI (zl)), .int (iI (1)), .long (ma), .int (iI (pw)), .int (iI (zk))])), (nb, .inr (3, [.ref nd, .int (iI (((dl X : Nat) : Int))), .int (iI (pt))])), (nd, .inl (cB, 4200, .inl d))], rfl, ⟨rfl, rfl⟩, by rw [ht9]; exact hP, hD⟩, hS.F ht9⟩) hS.2.2 d_Mo_told_26
set_option maxHeartbeats 4000000 in
set_option maxRecDepth 100000 in
theorem c_Mo_digest (l : Launch) (D : va_G) (cB cI cJ : ClassId) (t5 : Nat) (ad : Nat → Nat) (mo nb nd un ov xx dc : Nat) (d : Nat → Int32) (pt zl th pw zk : Int) (ma : Int64) (X : Nat) (hn : nm_ok d X) (hpt : -9000000 ≤ pt ∧ pt ≤ 9000000) : c_L l m_Mo_digest (Cond.code m_Mo_digest b_Mo_digest 4 (some .long) :: gw) (rm_ 0 0) (eX t5 ad) D ecl (tyS cB cI cJ) [.ref mo] [(mo, .inr (4, [.ref nb, .ref un, .ref ov, .ref xx, .ref dc, .int (iI (zl)), .int (iI (th)), .long (ma), .int (iI (pw)), .int (iI (zk))])), (nb, .inr (3, [.ref nd, .int (iI (((dl X : Nat) : Int))), .int (iI (pt))])), (nd, .inl (cB, 4200, .inl d))] (fun r u => r = hsv X (dl X) * jI 31 + jI pt ∧ u = [(mo, .inr (4, [.ref nb, .ref un, .ref ov, .ref xx, .ref dc, .int (iI (zl)), .int (iI (0)), .long (ma), .int (iI (pw)), .int (iI (zk))])), (nb, .inr (3, [.ref nd, .int (iI (((dl X : Nat) : Int))), .int (iI (pt))])), (nd, .inl (cB, 4200, .inl d))]) 0 0 := by
  intro sz0
  refine Met.ofW (cc := b_Mo_digest) (maxL := 4) (ret := (some .long)) (by decide) rfl ?_
  intro p e s m args below meth c s₁ B hml hv
  obtain ⟨rfl, hsz, hP, hK, hD0, hE⟩ := hv
  have hx := B.exec
  have hb := B.bytes
  have hr := B.returns
  have hts := atoms_spec (ws := Cond.code m_Mo_digest b_Mo_digest 4 (some .long) :: gw) B.pre
  have hown : s.vm.findClass R_Mo = some m.cls := findClass_of_methodNamed B.named
  have hlocks := B.notSynchronized
  subst hsz
  have hD := hD0.self (sz := s.heap.size)
  generalize hAe : va_A [(mo, .inr (4, [.ref nb, .ref un, .ref ov, .ref xx, .ref dc, .int (iI (zl)), .int (iI (th)), .long (ma), .int (iI (pw)), .int (iI (zk))])), (nb, .inr (3, [.ref nd, .int (iI (((dl X : Nat) : Int))), .int (iI (pt))])), (nd, .inl (cB, 4200, .inl d))] s.heap.size = A at hD hE ⊢
  have hA : ∀ q : Nat, s.heap.size ≤ q → A q := fun q h => by rw [← hAe]; exact Or.inr h
  have hS : va_S A s.heap s.heap [] := va_S.rf
  have hl := lv_entry ([.ref mo]) (n := 4) (Nat.le_of_ble_eq_true rfl)
  rw [lg_entry_eq]
  generalize (lg_sl ([.ref mo]) ++ List.replicate (4 - (lg_sl ([.ref mo])).length) Slot.unset).toArray = ls at hl ⊢
  have hl : lv_has ls 4 [(0, .ref mo)] := hl
  obtain ⟨hn1, hn2, hn3⟩ := hn
  have L11 : ∀ (n9 : Nat) (i : Nat) (zi : Int) (rv : Int64) (ls : Array Slot) (H : Heap) (locs : List Loc), dl X - i = n9 → (zi = (i : Int)) → (rv = hsv X i) → (i ≤ dl X) → lv_has ls 4 [(0, .ref mo), (1, .long (rv)), (3, .int (iI (zi)))] → va_P D ecl [(mo, .inr (4, [.ref nb, .ref un, .ref ov, .ref xx, .ref dc, .int (iI (zl)), .int (iI (0)), .long (ma), .int (iI (pw)), .int (iI (zk))])), (nb, .inr (3, [.ref nd, .int (iI (((dl X : Nat) : Int))), .int (iI (pt))])), (nd, .inl (cB, 4200, .inl d))] H → va_D A [(mo, .inr (4, [.ref nb, .ref un, .ref ov, .ref xx, .ref dc, .int (iI (zl)), .int (iI (0)), .long (ma), .int (iI (pw)), .int (iI (zk))])), (nb, .inr (3, [.ref nd, .int (iI (((dl X : Nat) : Int))), .int (iI (pt))])), (nd, .inl (cB, 4200, .inl d))] → va_S A s.heap H locs → W p l e (headSpec (Cond.code m_Mo_digest b_Mo_digest 4 (some .long) :: gw) (rm_ 0 0)).room s m ([.ref mo] : List Value).toArray below meth c H locs 0 0 (MQ below (va_Ql (fun r u => r = hsv X (dl X) * jI 31 + jI pt ∧ u = [(mo, .inr (4, [.ref nb, .ref un, .ref ov, .ref xx, .ref dc, .int (iI (zl)), .int (iI (0)), .long (ma), .int (iI (pw)), .int (iI (zk))])), (nb, .inr (3, [.ref nd, .int (iI (((dl X : Nat) : Int))), .int (iI (pt))])), (nd, .inl (cB, 4200, .inl d))]) (c_B D ecl A) A) ([.ref mo] : List Value).toArray s 0 0 A) (F0 m 11 ls []) := by
    intro n9
    induction n9 using Nat.strongRecOn with
    | ind n9 ih =>
    intro i zi rv ls H locs hn9 hi hrv hil hl hP hD hS
    refine lv_iload_n hx hb d_Mo_digest_11 rfl (lv_at hl 2 rfl) ?_
    refine lv_aload_n hx hb d_Mo_digest_12 rfl (lv_at hl 0 rfl) ?_
    refine va_get (D := D) (ci := 4) (v := .ref nb) (C := R_Mo) (T := T_Mo) (N := 10) hx hb hts (fun w h => List.mem_cons_of_mem _ (in_Mo w h)) hown hK hP 0 rfl rfl 0 (by decide) (hts _ (List.mem_cons_of_mem _ tw_390)) (fun _ h9 => h9) rfl d_Mo_digest_13 ?_
    refine va_get (D := D) (ci := 3) (v := .int (iI (((dl X : Nat) : Int)))) (C := R_Ro) (T := T_Ro) (N := 3) hx hb hts (fun w h => List.mem_cons_of_mem _ (in_Ro w h)) hown hK hP 1 rfl rfl 1 (by decide) (hts _ (List.mem_cons_of_mem _ tw_362)) (fun _ h9 => h9) rfl d_Mo_digest_16 ?_
    refine ed_icmp_ge (tgt := 45) hx hb d_Mo_digest_19 rfl (by omega) (by omega) (fun h_1 => ?_) (fun h_1 => ?_)
    · skip
      refine ed_pc (pc' := 45) rfl ?_
      refine lv_ldc2 (v := 31) hx hb hown (hts _ (List.mem_cons_of_mem _ tw_593)) d_Mo_digest_45 ?_
      refine ed_tl (y := (jI (31))) (by decide +kernel) ?_
      refine lv_lload_n hx hb d_Mo_digest_48 rfl (lv_at hl 1 rfl) ?_
      refine ed_pc (pc' := 49) rfl ?_
      refine lv_lmul hx hb d_Mo_digest_49 ?_
      refine lv_aload_n hx hb d_Mo_digest_50 rfl (lv_at hl 0 rfl) ?_
      refine va_get (D := D) (ci := 4) (v := .ref nb) (C := R_Mo) (T := T_Mo) (N := 10) hx hb hts (fun w h => List.mem_cons_of_mem _ (in_Mo w h)) hown hK hP 0 rfl rfl 0 (by decide) (hts _ (List.mem_cons_of_mem _ tw_390)) (fun _ h9 => h9) rfl d_Mo_digest_51 ?_
      refine va_get (D := D) (ci := 3) (v := .int (iI (pt))) (C := R_Ro) (T := T_Ro) (N := 3) hx hb hts (fun w h => List.mem_cons_of_mem _ (in_Ro w h)) hown hK hP 1 rfl rfl 2 (by decide) (hts _ (List.mem_cons_of_mem _ tw_364)) (fun _ h9 => h9) rfl d_Mo_digest_54 ?_
      refine ed_i2l hx hb d_Mo_digest_57 (by omega) ?_
      refine lv_ladd hx hb d_Mo_digest_58 ?_
      have hie : i = dl X := by omega
      exact W.lret (v := (((jI (31)) * (rv)) + (jI (pt)))) hx hb hr (fun t9 ht9 hW9 => ⟨⟨(((jI (31)) * (rv)) + (jI (pt))), [(mo, .inr (4, [.ref nb, .ref un, .ref ov, .ref xx, .ref dc, .int (iI (zl)), .int (iI (0)), .long (ma), .int (iI (pw)), .int (iI (zk))])), (nb, .inr (3, [.ref nd, .int (iI (((dl X : Nat) : Int))), .int (iI (pt))])), (nd, .inl (cB, 4200, .inl d))], rfl, ⟨by rw [hrv, hie, Int64.mul_comm], rfl⟩, by rw [ht9]; exact hP, hD⟩, hS.F ht9⟩) hS.2.2 d_Mo_digest_59
    · skip
      refine ed_pc (pc' := 22) rfl ?_
      obtain ⟨d0, hd0⟩ : ∃ d0 : Nat, d0 = X / 10 ^ (dl X - 1 - i) % 10 := ⟨_, rfl⟩
      have hd9 : d0 < 10 := by rw [hd0]; exact dg_lt _ _
      refine lv_ldc2 (v := 31) hx hb hown (hts _ (List.mem_cons_of_mem _ tw_593)) d_Mo_digest_22 ?_
      refine ed_tl (y := (jI (31))) (by decide +kernel) ?_
      refine lv_lload_n hx hb d_Mo_digest_25 rfl (lv_at hl 1 rfl) ?_
      refine ed_pc (pc' := 26) rfl ?_
      refine lv_lmul hx hb d_Mo_digest_26 ?_
      refine lv_aload_n hx hb d_Mo_digest_27 rfl (lv_at hl 0 rfl) ?_
      refine va_get (D := D) (ci := 4) (v := .ref nb) (C := R_Mo) (T := T_Mo) (N := 10) hx hb hts (fun w h => List.mem_cons_of_mem _ (in_Mo w h)) hown hK hP 0 rfl rfl 0 (by decide) (hts _ (List.mem_cons_of_mem _ tw_390)) (fun _ h9 => h9) rfl d_Mo_digest_28 ?_
      refine va_get (D := D) (ci := 3) (v := .ref nd) (C := R_Ro) (T := T_Ro) (N := 3) hx hb hts (fun w h => List.mem_cons_of_mem _ (in_Ro w h)) hown hK hP 1 rfl rfl 0 (by decide) (hts _ (List.mem_cons_of_mem _ tw_360)) (fun _ h9 => h9) rfl d_Mo_digest_31 ?_
      refine lv_iload_n hx hb d_Mo_digest_34 rfl (lv_at hl 2 rfl) ?_
      refine ed_bald (y := (d0 : Int)) hx hb hK hP 2 0 rfl rfl (i) (by omega) (by omega) (by decide) (by rw [hd0]; exact hn3 i (by omega)) d_Mo_digest_35 ?_
      refine ed_i2l hx hb d_Mo_digest_36 (by omega) ?_
      refine lv_ladd hx hb d_Mo_digest_37 ?_
      refine ed_pc (pc' := 38) rfl ?_
      refine lv_lstore_n hx hb d_Mo_digest_38 rfl hl (by decide) rfl (fun ls hl => ?_)
      have hl : lv_has ls 4 [(1, .long (((jI (31)) * (rv)) + (jI ((d0 : Int))))), (0, .ref mo), (3, .int (iI (zi)))] := hl
      refine lv_iinc (k := 2) (v := iI (zi + 1)) hx hb d_Mo_digest_39 hl rfl (iI_add _ _) (by decide) rfl (fun ls hl => ?_)
      have hl : lv_has ls 4 [(3, .int (iI (zi + 1))), (1, .long (((jI (31)) * (rv)) + (jI ((d0 : Int))))), (0, .ref mo)] := hl
      refine lv_goto (tgt := 11) hx hb d_Mo_digest_42 rfl ?_
      have hl := lv_sub hl [2, 1, 0] rfl
      exact ih _ (by omega) (i + 1) _ _ ls H locs rfl (by omega) (by rw [hrv, hd0, Int64.mul_comm]; rfl) (by omega) hl hP hD hS
  refine lv_aload_n hx hb d_Mo_digest_0 rfl (lv_at hl 0 rfl) ?_
  refine lv_iconst (v := iI 0) hx hb d_Mo_digest_1 rfl ?_
  refine va_put (D := D) (ci := 4) (v := .int (iI (0))) (ty := .int) (C := R_Mo) (T := T_Mo) (N := 10) hx hb hts (fun w h => List.mem_cons_of_mem _ (in_Mo w h)) y_Mo t_Mo n_Mo hown hK hP hD hS 0 rfl rfl 6 (by decide) (hts _ (List.mem_cons_of_mem _ tw_396)) (fun _ h9 => h9) rfl (by decide +kernel) rfl rfl (Nat.le_of_ble_eq_true rfl) d_Mo_digest_2 (fun H locs hP hD hS => ?_)
  have hP : va_P D ecl [(mo, .inr (4, [.ref nb, .ref un, .ref ov, .ref xx, .ref dc, .int (iI (zl)), .int (iI (0)), .long (ma), .int (iI (pw)), .int (iI (zk))])), (nb, .inr (3, [.ref nd, .int (iI (((dl X : Nat) : Int))), .int (iI (pt))])), (nd, .inl (cB, 4200, .inl d))] H := hP
  have hD : va_D A [(mo, .inr (4, [.ref nb, .ref un, .ref ov, .ref xx, .ref dc, .int (iI (zl)), .int (iI (0)), .long (ma), .int (iI (pw)), .int (iI (zk))])), (nb, .inr (3, [.ref nd, .int (iI (((dl X : Nat) : Int))), .int (iI (pt))])), (nd, .inl (cB, 4200, .inl d))] := hD
  refine lv_ldc2 (v := 7) hx hb hown (hts _ (List.mem_cons_of_mem _ tw_592)) d_Mo_digest_5 ?_
  refine ed_tl (y := (jI (7))) (by decide +kernel) ?_
  refine lv_lstore_n hx hb d_Mo_digest_8 rfl hl (by decide) rfl (fun ls hl => ?_)
  have hl : lv_has ls 4 [(1, .long (jI (7))), (0, .ref mo)] := hl
  refine lv_iconst (v := iI 0) hx hb d_Mo_digest_9 rfl ?_
  refine lv_istore_n hx hb d_Mo_digest_10 rfl hl (by decide) rfl (fun ls hl => ?_)
  have hl : lv_has ls 4 [(3, .int (iI (0))), (1, .long (jI (7))), (0, .ref mo)] := hl
  have hl := lv_sub hl [2, 1, 0] rfl
  exact L11 _ (0) _ _ ls H locs rfl (rfl) (rfl) (by omega) hl hP hD hS
