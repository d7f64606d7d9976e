set_option maxHeartbeats 4000000 in
set_option maxRecDepth 100000 in
theorem c_Mo_shift (l : Launch) (D : va_G) (cB cI cJ : ClassId) (t5 : Nat) (ad : Nat → Nat) (mo nb nd un ov xx dc : Nat) (d : Nat → Int32) (pt zl th pw zk : Int) (ma : Int64) (k : Int) (X : Nat) (hnm : nm_ok d X) (hpt : -9000000 ≤ pt ∧ pt ≤ 9000000) (h0 : X = 0 → pt = 0) (hzl : zl = 0 ∨ zl = 1) (hk : -2200 ≤ k ∧ k ≤ 2200) : c_I l m_Mo_shift (Cond.code m_Mo_shift b_Mo_shift 2 (some .int) :: gw) (rm_ 4 139) (eX t5 ad) D ecl (tyS cB cI cJ) [.ref mo, .int (iI (k))] [(mo, .inr (4, [.ref nb, .ref un, .ref ov, .ref xx, .ref dc, .int (iI (zl)), .int (iI (th)), .long (ma), .int (iI (pw)), .int (iI (zk))])), (nb, .inr (3, [.ref nd, .int (iI (((dl X : Nat) : Int))), .int (iI (pt))])), (nd, .inl (cB, 4200, .inl d))] (fun r u => r = iI ((dl (gvD (X * tw2 k)) : Nat) : Int) ∧ ∃ (d' : Nat → Int32) (zl' : Int), nm_ok d' (gvD (X * tw2 k)) ∧ ((zl' = 1 ∧ (hdb (X * tw2 k) (((dl (X * tw2 k) : Nat) : Int) - 1200) = 1 ∨ zl = 1)) ∨ (zl' = 0 ∧ ¬ (hdb (X * tw2 k) (((dl (X * tw2 k) : Nat) : Int) - 1200) = 1 ∨ zl = 1))) ∧ u = [(mo, .inr (4, [.ref nb, .ref un, .ref ov, .ref xx, .ref dc, .int (iI (zl')), .int (iI (0)), .long (ma), .int (iI (pw)), .int (iI (zk))])), (nb, .inr (3, [.ref nd, .int (iI (((dl (gvD (X * tw2 k)) : Nat) : Int))), .int (iI (if (X * tw2 k) = 0 then 0 else ((dl (X * tw2 k) : Nat) : Int) + (pt - ((dl X : Nat) : Int) + min k 0)))])), (nd, .inl (cB, 4200, .inl d'))]) 0 0 := by
  intro sz0
  refine Met.ofW (cc := b_Mo_shift) (maxL := 2) (ret := (some .int)) (by decide) rfl ?_
  intro p e s m args below meth c s₁ B hml hv
  obtain ⟨rfl, hsz, hP, hK, hD0, hE⟩ := hv
  have hx := B.exec
  have hb := B.bytes
  have hr := B.returns
  have hts := atoms_spec (ws := Cond.code m_Mo_shift b_Mo_shift 2 (some .int) :: gw) B.pre
  have hown : s.vm.findClass R_Mo = some m.cls := findClass_of_methodNamed B.named
  have hlocks := B.notSynchronized
  subst hsz
  have hD := hD0.self (sz := s.heap.size)
  generalize hAe : va_A [(mo, .inr (4, [.ref nb, .ref un, .ref ov, .ref xx, .ref dc, .int (iI (zl)), .int (iI (th)), .long (ma), .int (iI (pw)), .int (iI (zk))])), (nb, .inr (3, [.ref nd, .int (iI (((dl X : Nat) : Int))), .int (iI (pt))])), (nd, .inl (cB, 4200, .inl d))] s.heap.size = A at hD hE ⊢
  have hA : ∀ q : Nat, s.heap.size ≤ q → A q := fun q h => by rw [← hAe]; exact Or.inr h
  have hS : va_S A s.heap s.heap [] := va_S.rf
  have hl := lv_entry ([.ref mo, .int (iI (k))]) (n := 2) (Nat.le_of_ble_eq_true rfl)
  rw [lg_entry_eq]
  generalize (lg_sl ([.ref mo, .int (iI (k))]) ++ List.replicate (2 - (lg_sl ([.ref mo, .int (iI (k))])).length) Slot.unset).toArray = ls at hl ⊢
  have hl : lv_has ls 2 [(0, .ref mo), (1, .int (iI (k)))] := hl
  have h41 := sh_41 (X := X) (k := k) hnm.1 hk
  have hpe : (if X = 0 then pt else pt + (((dl (X * tw2 k) : Nat) : Int) - ((dl X : Nat) : Int)) + min k 0) = (if (X * tw2 k) = 0 then 0 else ((dl (X * tw2 k) : Nat) : Int) + (pt - ((dl X : Nat) : Int) + min k 0)) := by
    by_cases z : X = 0
    · rw [if_pos z, if_pos (by rw [z, Nat.zero_mul]), h0 z]
    · rw [if_neg z, if_neg (Nat.ne_of_gt (Nat.mul_pos (by omega) (tw2_pos k)))]; omega
  obtain ⟨pz, hpz⟩ : ∃ pz : Int, pz = (if (X * tw2 k) = 0 then 0 else ((dl (X * tw2 k) : Nat) : Int) + (pt - ((dl X : Nat) : Int) + min k 0)) := ⟨_, rfl⟩
  have hpzb : -10000000 ≤ pz ∧ pz ≤ 10000000 := by rw [hpz]; have := hnm.1; split <;> omega
  rw [← hpz] at hpe ⊢
  refine lv_aload_n hx hb d_Mo_shift_0 rfl (lv_at hl 0 rfl) ?_
  refine lv_iload_n hx hb d_Mo_shift_1 rfl (lv_at hl 1 rfl) ?_
  refine lv_sipush (v := iI (-2200)) hx hb d_Mo_shift_2 (by decide +kernel) ?_
  refine ed_icmp_lt (tgt := 15) hx hb d_Mo_shift_5 rfl (by omega) (by omega) (fun h_1 => ?_) (fun h_1 => ?_)
  · exact absurd h_1 (by omega)
  · skip
    refine ed_pc (pc' := 8) rfl ?_
    refine lv_iload_n hx hb d_Mo_shift_8 rfl (lv_at hl 1 rfl) ?_
    refine lv_sipush (v := iI 2200) hx hb d_Mo_shift_9 (by decide +kernel) ?_
    refine ed_icmp_le (tgt := 19) hx hb d_Mo_shift_12 rfl (by omega) (by omega) (fun h_2 => ?_) (fun h_2 => ?_)
    · skip
      refine ed_pc (pc' := 19) rfl ?_
      refine ed_pc (pc' := 19) rfl ?_
      refine lv_iconst (v := iI 0) hx hb d_Mo_shift_19 rfl ?_
      refine va_put (D := D) (ci := 4) (v := .int (iI (0))) (ty := .int) (C := R_Mo) (T := T_Mo) (N := 10) hx hb hts (fun w h => List.mem_cons_of_mem _ (in_Mo w h)) y_Mo t_Mo n_Mo hown hK hP hD hS 0 rfl rfl 6 (by decide) (hts _ (List.mem_cons_of_mem _ tw_396)) (fun _ h9 => h9) rfl (by decide +kernel) rfl rfl (Nat.le_of_ble_eq_true rfl) d_Mo_shift_20 (fun H locs hP hD hS => ?_)
      have hP : va_P D ecl [(mo, .inr (4, [.ref nb, .ref un, .ref ov, .ref xx, .ref dc, .int (iI (zl)), .int (iI (0)), .long (ma), .int (iI (pw)), .int (iI (zk))])), (nb, .inr (3, [.ref nd, .int (iI (((dl X : Nat) : Int))), .int (iI (pt))])), (nd, .inl (cB, 4200, .inl d))] H := hP
      have hD : va_D A [(mo, .inr (4, [.ref nb, .ref un, .ref ov, .ref xx, .ref dc, .int (iI (zl)), .int (iI (0)), .long (ma), .int (iI (pw)), .int (iI (zk))])), (nb, .inr (3, [.ref nd, .int (iI (((dl X : Nat) : Int))), .int (iI (pt))])), (nd, .inl (cB, 4200, .inl d))] := hD
      refine lv_aload_n hx hb d_Mo_shift_23 rfl (lv_at hl 0 rfl) ?_
      refine va_get (D := D) (ci := 4) (v := .int (iI (0))) (C := R_Mo) (T := T_Mo) (N := 10) hx hb hts (fun w h => List.mem_cons_of_mem _ (in_Mo w h)) hown hK hP 0 rfl rfl 6 (by decide) (hts _ (List.mem_cons_of_mem _ tw_396)) (fun _ h9 => h9) rfl d_Mo_shift_24 ?_
      refine ed_if_le (tgt := 32) hx hb d_Mo_shift_27 rfl (by omega) (fun h_3 => ?_) (fun h_3 => ?_)
      · skip
        refine ed_pc (pc' := 32) rfl ?_
        refine lv_aload_n hx hb d_Mo_shift_32 rfl (lv_at hl 0 rfl) ?_
        refine va_get (D := D) (ci := 4) (v := .ref nb) (C := R_Mo) (T := T_Mo) (N := 10) hx hb hts (fun w h => List.mem_cons_of_mem _ (in_Mo w h)) hown hK hP 0 rfl rfl 0 (by decide) (hts _ (List.mem_cons_of_mem _ tw_390)) (fun _ h9 => h9) rfl d_Mo_shift_33 ?_
        refine lv_iload_n hx hb d_Mo_shift_36 rfl (lv_at hl 1 rfl) ?_
        refine ed_pc (pc' := 37) rfl ?_
        refine c_fv (wc := [(nb, .inr (3, [.ref nd, .int (iI (((dl X : Nat) : Int))), .int (iI (pt))])), (nd, .inl (cB, 4200, .inl d))]) (wr := [(mo, .inr (4, [.ref nb, .ref un, .ref ov, .ref xx, .ref dc, .int (iI (zl)), .int (iI (0)), .long (ma), .int (iI (pw)), .int (iI (zk))]))]) (va_runV (C := "ExactDigitsModel$Row") (As := [.int (iI (k))]) (rest := []) ⟨hx, hb, hml, hown, hts⟩ (c_Ro_shift l D cB cI cJ t5 ad nb nd d pt k X hnm.2 h41 (by omega) (by omega) H.size) (cwV 1 hts (gV tw_454 tw_455 tw_456 tw_4 tw_457) rfl rfl rfl (by decide +kernel) ⟨Nat.le_of_ble_eq_true rfl, Nat.le_of_ble_eq_true rfl⟩) ⟨c_blind (eX_X t5 ad), va_recv (ci := 3) (q0 := 1) hK hP rfl rfl, fun U hU hW => c_pre (wc := [(nb, .inr (3, [.ref nd, .int (iI (((dl X : Nat) : Int))), .int (iI (pt))])), (nd, .inl (cB, 4200, .inl d))]) (eX_X t5 ad) hE hK hP hD hS hA [1, 2] rfl (by decide) U hU hW⟩ rfl rfl hl.1 rfl (lv_room (Nat.le_of_ble_eq_true rfl)) d_Mo_shift_37 ⟨Nat.le_of_ble_eq_true rfl, Nat.le_of_ble_eq_true rfl⟩) hP hD hS hA [1, 2] [0] rfl rfl (by decide) (by decide) (fun u H locs hp hP hD hS => ?_)
        obtain ⟨d3, hd3, rfl⟩ := hp
        have hP : va_P D ecl [(mo, .inr (4, [.ref nb, .ref un, .ref ov, .ref xx, .ref dc, .int (iI (zl)), .int (iI (0)), .long (ma), .int (iI (pw)), .int (iI (zk))])), (nb, .inr (3, [.ref nd, .int (iI (((dl (rz (X * tw2 k)) : Nat) : Int))), .int (iI (if X = 0 then pt else pt + (((dl (X * tw2 k) : Nat) : Int) - ((dl X : Nat) : Int)) + min k 0))])), (nd, .inl (cB, 4200, .inl d3))] H := hP
        have hD : va_D A [(mo, .inr (4, [.ref nb, .ref un, .ref ov, .ref xx, .ref dc, .int (iI (zl)), .int (iI (0)), .long (ma), .int (iI (pw)), .int (iI (zk))])), (nb, .inr (3, [.ref nd, .int (iI (((dl (rz (X * tw2 k)) : Nat) : Int))), .int (iI (if X = 0 then pt else pt + (((dl (X * tw2 k) : Nat) : Int) - ((dl X : Nat) : Int)) + min k 0))])), (nd, .inl (cB, 4200, .inl d3))] := hD
        rw [hpe] at hP hD
        have hP : va_P D ecl [(mo, .inr (4, [.ref nb, .ref un, .ref ov, .ref xx, .ref dc, .int (iI (zl)), .int (iI (0)), .long (ma), .int (iI (pw)), .int (iI (zk))])), (nb, .inr (3, [.ref nd, .int (iI (((dl (rz (X * tw2 k)) : Nat) : Int))), .int (iI (pz))])), (nd, .inl (cB, 4200, .inl d3))] H := hP
        have hD : va_D A [(mo, .inr (4, [.ref nb, .ref un, .ref ov, .ref xx, .ref dc, .int (iI (zl)), .int (iI (0)), .long (ma), .int (iI (pw)), .int (iI (zk))])), (nb, .inr (3, [.ref nd, .int (iI (((dl (rz (X * tw2 k)) : Nat) : Int))), .int (iI (pz))])), (nd, .inl (cB, 4200, .inl d3))] := hD
        have hrl := dl_mono (rz_le (X * tw2 k))
        refine lv_aload_n hx hb d_Mo_shift_40 rfl (lv_at hl 0 rfl) ?_
        refine c_fi (wc := [(mo, .inr (4, [.ref nb, .ref un, .ref ov, .ref xx, .ref dc, .int (iI (zl)), .int (iI (0)), .long (ma), .int (iI (pw)), .int (iI (zk))])), (nb, .inr (3, [.ref nd, .int (iI (((dl (rz (X * tw2 k)) : Nat) : Int))), .int (iI (pz))])), (nd, .inl (cB, 4200, .inl d3))]) (wr := []) (va_runV (C := "ExactDigitsModel") (As := []) (rest := []) ⟨hx, hb, hml, hown, hts⟩ (c_Mo_kept l D cB cI cJ t5 ad mo nb nd un ov xx dc d3 pz zl 0 pw zk ma (rz (X * tw2 k)) hd3 (by omega) hzl (by omega) H.size) (cwV 0 hts (gV tw_503 tw_505 ts_18 tw_3 tw_506) rfl rfl rfl (by decide +kernel) ⟨Nat.le_of_ble_eq_true rfl, Nat.le_of_ble_eq_true rfl⟩) ⟨c_blind (eX_X t5 ad), va_recv (ci := 4) (q0 := 0) hK hP rfl rfl, fun U hU hW => c_pre (wc := [(mo, .inr (4, [.ref nb, .ref un, .ref ov, .ref xx, .ref dc, .int (iI (zl)), .int (iI (0)), .long (ma), .int (iI (pw)), .int (iI (zk))])), (nb, .inr (3, [.ref nd, .int (iI (((dl (rz (X * tw2 k)) : Nat) : Int))), .int (iI (pz))])), (nd, .inl (cB, 4200, .inl d3))]) (eX_X t5 ad) hE hK hP hD hS hA [0, 1, 2] rfl (by decide) U hU hW⟩ rfl rfl hl.1 rfl (lv_room (Nat.le_of_ble_eq_true rfl)) d_Mo_shift_41 ⟨Nat.le_of_ble_eq_true rfl, Nat.le_of_ble_eq_true rfl⟩) hP hD hS hA [0, 1, 2] [] rfl rfl (by decide) (by decide) (fun r u H locs hp hP hD hS => ?_)
        obtain ⟨rfl, hok, zl2, hz2, rfl⟩ := hp
        have hP : va_P D ecl [(mo, .inr (4, [.ref nb, .ref un, .ref ov, .ref xx, .ref dc, .int (iI (zl2)), .int (iI (0)), .long (ma), .int (iI (pw)), .int (iI (zk))])), (nb, .inr (3, [.ref nd, .int (iI (((dl (gvD (rz (X * tw2 k))) : Nat) : Int))), .int (iI (pz))])), (nd, .inl (cB, 4200, .inl d3))] H := hP
        have hD : va_D A [(mo, .inr (4, [.ref nb, .ref un, .ref ov, .ref xx, .ref dc, .int (iI (zl2)), .int (iI (0)), .long (ma), .int (iI (pw)), .int (iI (zk))])), (nb, .inr (3, [.ref nd, .int (iI (((dl (gvD (rz (X * tw2 k))) : Nat) : Int))), .int (iI (pz))])), (nd, .inl (cB, 4200, .inl d3))] := hD
        have hgr := mgv_rz (X * tw2 k)
        have hhr := hdb_rz (X * tw2 k)
        exact W.iret (v := (iI (((dl (gvD (rz (X * tw2 k))) : Nat) : Int)))) hx hb hr (fun t9 ht9 hW9 => ⟨⟨(iI (((dl (gvD (rz (X * tw2 k))) : Nat) : Int))), [(mo, .inr (4, [.ref nb, .ref un, .ref ov, .ref xx, .ref dc, .int (iI (zl2)), .int (iI (0)), .long (ma), .int (iI (pw)), .int (iI (zk))])), (nb, .inr (3, [.ref nd, .int (iI (((dl (gvD (rz (X * tw2 k))) : Nat) : Int))), .int (iI (pz))])), (nd, .inl (cB, 4200, .inl d3))], rfl, ⟨by rw [hgr], d3, zl2, by rw [hgr]; exact hok, by rw [hhr]; exact hz2, by rw [hgr]⟩, by rw [ht9]; exact hP, hD⟩, hS.F ht9⟩) hS.2.2 d_Mo_shift_44
      · exact absurd h_3 (by omega)
    · exact absurd h_2 (by omega)
set_option maxHeartbeats 4000000 in
set_option maxRecDepth 100000 in
theorem c_Mo_shift_no (l : Launch) (D : va_G) (cB cI cJ : ClassId) (t5 : Nat) (ad : Nat → Nat) (mo nb nd un ov xx dc : Nat) (d : Nat → Int32) (pt zl th pw zk : Int) (ma : Int64) (X : Nat) (n : Int) (hk : iR n) (hm : n < -2200 ∨ 2200 < n) : c_I l m_Mo_shift (Cond.code m_Mo_shift b_Mo_shift 2 (some .int) :: gw) (rm_ 4 139) (eX t5 ad) D ecl (tyS cB cI cJ) [.ref mo, .int (iI (n))] [(mo, .inr (4, [.ref nb, .ref un, .ref ov, .ref xx, .ref dc, .int (iI (zl)), .int (iI (th)), .long (ma), .int (iI (pw)), .int (iI (zk))])), (nb, .inr (3, [.ref nd, .int (iI (((dl X : Nat) : Int))), .int (iI (pt))])), (nd, .inl (cB, 4200, .inl d))] (fun r u => r = iI 0 ∧ u = [(mo, .inr (4, [.ref nb, .ref un, .ref ov, .ref xx, .ref dc, .int (iI (zl)), .int (iI (1)), .long (ma), .int (iI (pw)), .int (iI (zk))])), (nb, .inr (3, [.ref nd, .int (iI (((dl X : Nat) : Int))), .int (iI (pt))])), (nd, .inl (cB, 4200, .inl d))]) 0 0 := by
  intro sz0
  refine Met.ofW (cc := b_Mo_shift) (maxL := 2) (ret := (some .int)) (by decide) rfl ?_
  intro p e s m args below meth c s₁ B hml hv
  obtain ⟨rfl, hsz, hP, hK, hD0, hE⟩ := hv
  have hx := B.exec
  have hb := B.bytes
  have hr := B.returns
  have hts := atoms_spec (ws := Cond.code m_Mo_shift b_Mo_shift 2 (some .int) :: gw) B.pre
  have hown : s.vm.findClass R_Mo = some m.cls := findClass_of_methodNamed B.named
  have hlocks := B.notSynchronized
  subst hsz
  have hD := hD0.self (sz := s.heap.size)
  generalize hAe : va_A [(mo, .inr (4, [.ref nb, .ref un, .ref ov, .ref xx, .ref dc, .int (iI (zl)), .int (iI (th)), .long (ma), .int (iI (pw)), .int (iI (zk))])), (nb, .inr (3, [.ref nd, .int (iI (((dl X : Nat) : Int))), .int (iI (pt))])), (nd, .inl (cB, 4200, .inl d))] s.heap.size = A at hD hE ⊢
  have hA : ∀ q : Nat, s.heap.size ≤ q → A q := fun q h => by rw [← hAe]; exact Or.inr h
  have hS : va_S A s.heap s.heap [] := va_S.rf
  have hl := lv_entry ([.ref mo, .int (iI (n))]) (n := 2) (Nat.le_of_ble_eq_true rfl)
  rw [lg_entry_eq]
  generalize (lg_sl ([.ref mo, .int (iI (n))]) ++ List.replicate (2 - (lg_sl ([.ref mo, .int (iI (n))])).length) Slot.unset).toArray = ls at hl ⊢
  have hl : lv_has ls 2 [(0, .ref mo), (1, .int (iI (n)))] := hl
  refine lv_aload_n hx hb d_Mo_shift_0 rfl (lv_at hl 0 rfl) ?_
  refine lv_iload_n hx hb d_Mo_shift_1 rfl (lv_at hl 1 rfl) ?_
  refine lv_sipush (v := iI (-2200)) hx hb d_Mo_shift_2 (by decide +kernel) ?_
  refine ed_icmp_lt (tgt := 15) hx hb d_Mo_shift_5 rfl (by omega) (by omega) (fun h_1 => ?_) (fun h_1 => ?_)
  · skip
    refine ed_pc (pc' := 15) rfl ?_
    refine lv_iconst (v := iI 1) hx hb d_Mo_shift_15 rfl ?_
    refine lv_goto (tgt := 20) hx hb d_Mo_shift_16 rfl ?_
    refine va_put (D := D) (ci := 4) (v := .int (iI (1))) (ty := .int) (C := R_Mo) (T := T_Mo) (N := 10) hx hb hts (fun w h => List.mem_cons_of_mem _ (in_Mo w h)) y_Mo t_Mo n_Mo hown hK hP hD hS 0 rfl rfl 6 (by decide) (hts _ (List.mem_cons_of_mem _ tw_396)) (fun _ h9 => h9) rfl (by decide +kernel) rfl rfl (Nat.le_of_ble_eq_true rfl) d_Mo_shift_20 (fun H locs hP hD hS => ?_)
    have hP : va_P D ecl [(mo, .inr (4, [.ref nb, .ref un, .ref ov, .ref xx, .ref dc, .int (iI (zl)), .int (iI (1)), .long (ma), .int (iI (pw)), .int (iI (zk))])), (nb, .inr (3, [.ref nd, .int (iI (((dl X : Nat) : Int))), .int (iI (pt))])), (nd, .inl (cB, 4200, .inl d))] H := hP
    have hD : va_D A [(mo, .inr (4, [.ref nb, .ref un, .ref ov, .ref xx, .ref dc, .int (iI (zl)), .int (iI (1)), .long (ma), .int (iI (pw)), .int (iI (zk))])), (nb, .inr (3, [.ref nd, .int (iI (((dl X : Nat) : Int))), .int (iI (pt))])), (nd, .inl (cB, 4200, .inl d))] := hD
    refine ed_pc (pc' := 23) rfl ?_
    refine lv_aload_n hx hb d_Mo_shift_23 rfl (lv_at hl 0 rfl) ?_
    refine va_get (D := D) (ci := 4) (v := .int (iI (1))) (C := R_Mo) (T := T_Mo) (N := 10) hx hb hts (fun w h => List.mem_cons_of_mem _ (in_Mo w h)) hown hK hP 0 rfl rfl 6 (by decide) (hts _ (List.mem_cons_of_mem _ tw_396)) (fun _ h9 => h9) rfl d_Mo_shift_24 ?_
    refine ed_if_le (tgt := 32) hx hb d_Mo_shift_27 rfl (by omega) (fun h_2 => ?_) (fun h_2 => ?_)
    · exact absurd h_2 (by omega)
    · skip
      refine ed_pc (pc' := 30) rfl ?_
      refine lv_iconst (v := iI 0) hx hb d_Mo_shift_30 rfl ?_
      exact W.iret (v := (iI (0))) hx hb hr (fun t9 ht9 hW9 => ⟨⟨(iI (0)), [(mo, .inr (4, [.ref nb, .ref un, .ref ov, .ref xx, .ref dc, .int (iI (zl)), .int (iI (1)), .long (ma), .int (iI (pw)), .int (iI (zk))])), (nb, .inr (3, [.ref nd, .int (iI (((dl X : Nat) : Int))), .int (iI (pt))])), (nd, .inl (cB, 4200, .inl d))], rfl, ⟨rfl, rfl⟩, by rw [ht9]; exact hP, hD⟩, hS.F ht9⟩) hS.2.2 d_Mo_shift_31
  · skip
    refine ed_pc (pc' := 8) rfl ?_
    refine lv_iload_n hx hb d_Mo_shift_8 rfl (lv_at hl 1 rfl) ?_
    refine lv_sipush (v := iI 2200) hx hb d_Mo_shift_9 (by decide +kernel) ?_
    refine ed_icmp_le (tgt := 19) hx hb d_Mo_shift_12 rfl (by omega) (by omega) (fun h_3 => ?_) (fun h_3 => ?_)
    · skip
      refine ed_pc (pc' := 19) rfl ?_
      exfalso; omega
    · skip
      refine ed_pc (pc' := 15) rfl ?_
      refine ed_pc (pc' := 15) rfl ?_
      refine lv_iconst (v := iI 1) hx hb d_Mo_shift_15 rfl ?_
      refine lv_goto (tgt := 20) hx hb d_Mo_shift_16 rfl ?_
      refine va_put (D := D) (ci := 4) (v := .int (iI (1))) (ty := .int) (C := R_Mo) (T := T_Mo) (N := 10) hx hb hts (fun w h => List.mem_cons_of_mem _ (in_Mo w h)) y_Mo t_Mo n_Mo hown hK hP hD hS 0 rfl rfl 6 (by decide) (hts _ (List.mem_cons_of_mem _ tw_396)) (fun _ h9 => h9) rfl (by decide +kernel) rfl rfl (Nat.le_of_ble_eq_true rfl) d_Mo_shift_20 (fun H locs hP hD hS => ?_)
      have hP : va_P D ecl [(mo, .inr (4, [.ref nb, .ref un, .ref ov, .ref xx, .ref dc, .int (iI (zl)), .int (iI (1)), .long (ma), .int (iI (pw)), .int (iI (zk))])), (nb, .inr (3, [.ref nd, .int (iI (((dl X : Nat) : Int))), .int (iI (pt))])), (nd, .inl (cB, 4200, .inl d))] H := hP
      have hD : va_D A [(mo, .inr (4, [.ref nb, .ref un, .ref ov, .ref xx, .ref dc, .int (iI (zl)), .int (iI (1)), .long (ma), .int (iI (pw)), .int (iI (zk))])), (nb, .inr (3, [.ref nd, .int (iI (((dl X : Nat) : Int))), .int (iI (pt))])), (nd, .inl (cB, 4200, .inl d))] := hD
      refine lv_aload_n hx hb d_Mo_shift_23 rfl (lv_at hl 0 rfl) ?_
      refine va_get (D := D) (ci := 4) (v := .int (iI (1))) (C := R_Mo) (T := T_Mo) (N := 10) hx hb hts (fun w h => List.mem_cons_of_mem _ (in_Mo w h)) hown hK hP 0 rfl rfl 6 (by decide) (hts _ (List.mem_cons_of_mem _ tw_396)) (fun _ h9 => h9) rfl d_Mo_shift_24 ?_
      refine ed_if_le (tgt := 32) hx hb d_Mo_shift_27 rfl (by omega) (fun h_4 => ?_) (fun h_4 => ?_)
      · exact absurd h_4 (by omega)
      · skip
        refine ed_pc (pc' := 30) rfl ?_
        refine lv_iconst (v := iI 0) hx hb d_Mo_shift_30 rfl ?_
        exact W.iret (v := (iI (0))) hx hb hr (fun t9 ht9 hW9 => ⟨⟨(iI (0)), [(mo, .inr (4, [.ref nb, .ref un, .ref ov, .ref xx, .ref dc, .int (iI (zl)), .int (iI (1)), .long (ma), .int (iI (pw)), .int (iI (zk))])), (nb, .inr (3, [.ref nd, .int (iI (((dl X : Nat) : Int))), .int (iI (pt))])), (nd, .inl (cB, 4200, .inl d))], rfl, ⟨rfl, rfl⟩, by rw [ht9]; exact hP, hD⟩, hS.F ht9⟩) hS.2.2 d_Mo_shift_31
set_option maxHeartbeats 4000000 in
set_option maxRecDepth 100000 in
theorem c_Mo_move (l : Launch) (D : va_G) (cB cI cJ : ClassId) (t5 : Nat) (ad : Nat → Nat) (mo nb nd un ov xx dc : Nat) (d : Nat → Int32) (pt zl th pw zk : Int) (ma : Int64) (k : Int) (X : Nat) (hX12 : dl X ≤ 1200) (hpt : -9000000 ≤ pt ∧ pt ≤ 9000000) (h0 : X = 0 → pt = 0) (hk : -5000 ≤ k ∧ k ≤ 5000) (hm : X = 0 ∨ (-10000 ≤ pt + k ∧ pt + k ≤ 10000)) : c_I l m_Mo_move (Cond.code m_Mo_move b_Mo_move 4 (some .int) :: gw) (rm_ 0 0) (eX t5 ad) D ecl (tyS cB cI cJ) [.ref mo, .int (iI (k))] [(mo, .inr (4, [.ref nb, .ref un, .ref ov, .ref xx, .ref dc, .int (iI (zl)), .int (iI (th)), .long (ma), .int (iI (pw)), .int (iI (zk))])), (nb, .inr (3, [.ref nd, .int (iI (((dl X : Nat) : Int))), .int (iI (pt))])), (nd, .inl (cB, 4200, .inl d))] (fun r u => r = iI (if X = 0 then 0 else pt + k) ∧ u = [(mo, .inr (4, [.ref nb, .ref un, .ref ov, .ref xx, .ref dc, .int (iI (zl)), .int (iI (0)), .long (ma), .int (iI (pw)), .int (iI (zk))])), (nb, .inr (3, [.ref nd, .int (iI (((dl X : Nat) : Int))), .int (iI (if X = 0 then pt else pt + k))])), (nd, .inl (cB, 4200, .inl d))]) 0 0 := by
  intro sz0
  refine Met.ofW (cc := b_Mo_move) (maxL := 4) (ret := (some .int)) (by decide) rfl ?_
  intro p e s m args below meth c s₁ B hml hv
  obtain ⟨rfl, hsz, hP, hK, hD0, hE⟩ := hv
  have hx := B.exec
  have hb := B.bytes
  have hr := B.returns
  have hts := atoms_spec (ws := Cond.code m_Mo_move b_Mo_move 4 (some .int) :: gw) B.pre
  have hown : s.vm.findClass R_Mo = some m.cls := findClass_of_methodNamed B.named
  have hlocks := B.notSynchronized
  subst hsz
  have hD := hD0.self (sz := s.heap.size)
  generalize hAe : va_A [(mo, .inr (4, [.ref nb, .ref un, .ref ov, .ref xx, .ref dc, .int (iI (zl)), .int (iI (th)), .long (ma), .int (iI (pw)), .int (iI (zk))])), (nb, .inr (3, [.ref nd, .int (iI (((dl X : Nat) : Int))), .int (iI (pt))])), (nd, .inl (cB, 4200, .inl d))] s.heap.size = A at hD hE ⊢
  have hA : ∀ q : Nat, s.heap.size ≤ q → A q := fun q h => by rw [← hAe]; exact Or.inr h
  have hS : va_S A s.heap s.heap [] := va_S.rf
  have hl := lv_entry ([.ref mo, .int (iI (k))]) (n := 4) (Nat.le_of_ble_eq_true rfl)
  rw [lg_entry_eq]
  generalize (lg_sl ([.ref mo, .int (iI (k))]) ++ List.replicate (4 - (lg_sl ([.ref mo, .int (iI (k))])).length) Slot.unset).toArray = ls at hl ⊢
  have hl : lv_has ls 4 [(0, .ref mo), (1, .int (iI (k)))] := hl
  have hd0 : dl X = 0 ↔ X = 0 := ⟨fun z => dl_eq0 z, fun z => by rw [z, dl_0]⟩
  refine lv_aload_n hx hb d_Mo_move_0 rfl (lv_at hl 0 rfl) ?_
  refine va_get (D := D) (ci := 4) (v := .ref nb) (C := R_Mo) (T := T_Mo) (N := 10) hx hb hts (fun w h => List.mem_cons_of_mem _ (in_Mo w h)) hown hK hP 0 rfl rfl 0 (by decide) (hts _ (List.mem_cons_of_mem _ tw_390)) (fun _ h9 => h9) rfl d_Mo_move_1 ?_
  refine va_get (D := D) (ci := 3) (v := .int (iI (((dl X : Nat) : Int)))) (C := R_Ro) (T := T_Ro) (N := 3) hx hb hts (fun w h => List.mem_cons_of_mem _ (in_Ro w h)) hown hK hP 1 rfl rfl 1 (by decide) (hts _ (List.mem_cons_of_mem _ tw_362)) (fun _ h9 => h9) rfl d_Mo_move_4 ?_
  refine ed_if_ne (tgt := 14) hx hb d_Mo_move_7 rfl (by omega) (fun h_1 => ?_) (fun h_1 => ?_)
  · skip
    refine ed_pc (pc' := 14) rfl ?_
    refine lv_iconst (v := iI 0) hx hb d_Mo_move_14 rfl ?_
    refine lv_istore_n hx hb d_Mo_move_15 rfl hl (by decide) rfl (fun ls hl => ?_)
    have hl : lv_has ls 4 [(2, .int (iI (0))), (0, .ref mo), (1, .int (iI (k)))] := hl
    refine lv_iload_n hx hb d_Mo_move_16 rfl (lv_at hl 0 rfl) ?_
    refine ed_pc (pc' := 17) rfl ?_
    refine ed_if_eq (tgt := 24) hx hb d_Mo_move_17 rfl (by omega) (fun h_2 => ?_) (fun h_2 => ?_)
    · skip
      refine ed_pc (pc' := 24) rfl ?_
      refine lv_aload_n hx hb d_Mo_move_24 rfl (lv_at hl 1 rfl) ?_
      refine va_get (D := D) (ci := 4) (v := .ref nb) (C := R_Mo) (T := T_Mo) (N := 10) hx hb hts (fun w h => List.mem_cons_of_mem _ (in_Mo w h)) hown hK hP 0 rfl rfl 0 (by decide) (hts _ (List.mem_cons_of_mem _ tw_390)) (fun _ h9 => h9) rfl d_Mo_move_25 ?_
      refine va_get (D := D) (ci := 3) (v := .int (iI (pt))) (C := R_Ro) (T := T_Ro) (N := 3) hx hb hts (fun w h => List.mem_cons_of_mem _ (in_Ro w h)) hown hK hP 1 rfl rfl 2 (by decide) (hts _ (List.mem_cons_of_mem _ tw_364)) (fun _ h9 => h9) rfl d_Mo_move_28 ?_
      refine lv_iload_n hx hb d_Mo_move_31 rfl (lv_at hl 2 rfl) ?_
      refine ed_iadd hx hb d_Mo_move_32 ?_
      refine lv_istore_n hx hb d_Mo_move_33 rfl hl (by decide) rfl (fun ls hl => ?_)
      have hl : lv_has ls 4 [(3, .int (iI ((pt) + (k)))), (2, .int (iI (0))), (0, .ref mo), (1, .int (iI (k)))] := hl
      refine lv_aload_n hx hb d_Mo_move_34 rfl (lv_at hl 2 rfl) ?_
      refine ed_pc (pc' := 35) rfl ?_
      refine lv_iload_n hx hb d_Mo_move_35 rfl (lv_at hl 3 rfl) ?_
      refine lv_sipush (v := iI (-5000)) hx hb d_Mo_move_36 (by decide +kernel) ?_
      refine ed_icmp_lt (tgt := 63) hx hb d_Mo_move_39 rfl (by omega) (by omega) (fun h_3 => ?_) (fun h_3 => ?_)
      · exact absurd h_3 (by omega)
      · skip
        refine ed_pc (pc' := 42) rfl ?_
        refine lv_iload_n hx hb d_Mo_move_42 rfl (lv_at hl 3 rfl) ?_
        refine lv_sipush (v := iI 5000) hx hb d_Mo_move_43 (by decide +kernel) ?_
        refine ed_icmp_gt (tgt := 63) hx hb d_Mo_move_46 rfl (by omega) (by omega) (fun h_4 => ?_) (fun h_4 => ?_)
        · exact absurd h_4 (by omega)
        · skip
          refine ed_pc (pc' := 49) rfl ?_
          refine lv_iload_n hx hb d_Mo_move_49 rfl (lv_at hl 0 rfl) ?_
          refine lv_sipush (v := iI (-10000)) hx hb d_Mo_move_50 (by decide +kernel) ?_
          refine ed_pc (pc' := 53) rfl ?_
          refine ed_icmp_lt (tgt := 63) hx hb d_Mo_move_53 rfl (by omega) (by omega) (fun h_5 => ?_) (fun h_5 => ?_)
          · exact absurd h_5 (by omega)
          · skip
            refine ed_pc (pc' := 56) rfl ?_
            refine lv_iload_n hx hb d_Mo_move_56 rfl (lv_at hl 0 rfl) ?_
            refine lv_sipush (v := iI 10000) hx hb d_Mo_move_57 (by decide +kernel) ?_
            refine ed_icmp_le (tgt := 67) hx hb d_Mo_move_60 rfl (by omega) (by omega) (fun h_6 => ?_) (fun h_6 => ?_)
            · skip
              refine ed_pc (pc' := 67) rfl ?_
              refine lv_iconst (v := iI 0) hx hb d_Mo_move_67 rfl ?_
              refine va_put (D := D) (ci := 4) (v := .int (iI (0))) (ty := .int) (C := R_Mo) (T := T_Mo) (N := 10) hx hb hts (fun w h => List.mem_cons_of_mem _ (in_Mo w h)) y_Mo t_Mo n_Mo hown hK hP hD hS 0 rfl rfl 6 (by decide) (hts _ (List.mem_cons_of_mem _ tw_396)) (fun _ h9 => h9) rfl (by decide +kernel) rfl rfl (Nat.le_of_ble_eq_true rfl) d_Mo_move_68 (fun H locs hP hD hS => ?_)
              have hP : va_P D ecl [(mo, .inr (4, [.ref nb, .ref un, .ref ov, .ref xx, .ref dc, .int (iI (zl)), .int (iI (0)), .long (ma), .int (iI (pw)), .int (iI (zk))])), (nb, .inr (3, [.ref nd, .int (iI (((dl X : Nat) : Int))), .int (iI (pt))])), (nd, .inl (cB, 4200, .inl d))] H := hP
              have hD : va_D A [(mo, .inr (4, [.ref nb, .ref un, .ref ov, .ref xx, .ref dc, .int (iI (zl)), .int (iI (0)), .long (ma), .int (iI (pw)), .int (iI (zk))])), (nb, .inr (3, [.ref nd, .int (iI (((dl X : Nat) : Int))), .int (iI (pt))])), (nd, .inl (cB, 4200, .inl d))] := hD
              refine lv_aload_n hx hb d_Mo_move_71 rfl (lv_at hl 2 rfl) ?_
              refine va_get (D := D) (ci := 4) (v := .int (iI (0))) (C := R_Mo) (T := T_Mo) (N := 10) hx hb hts (fun w h => List.mem_cons_of_mem _ (in_Mo w h)) hown hK hP 0 rfl rfl 6 (by decide) (hts _ (List.mem_cons_of_mem _ tw_396)) (fun _ h9 => h9) rfl d_Mo_move_72 ?_
              refine ed_pc (pc' := 75) rfl ?_
              refine ed_if_le (tgt := 80) hx hb d_Mo_move_75 rfl (by omega) (fun h_7 => ?_) (fun h_7 => ?_)
              · skip
                refine ed_pc (pc' := 80) rfl ?_
                refine lv_aload_n hx hb d_Mo_move_80 rfl (lv_at hl 2 rfl) ?_
                refine va_get (D := D) (ci := 4) (v := .ref nb) (C := R_Mo) (T := T_Mo) (N := 10) hx hb hts (fun w h => List.mem_cons_of_mem _ (in_Mo w h)) hown hK hP 0 rfl rfl 0 (by decide) (hts _ (List.mem_cons_of_mem _ tw_390)) (fun _ h9 => h9) rfl d_Mo_move_81 ?_
                refine lv_iload_n hx hb d_Mo_move_84 rfl (lv_at hl 0 rfl) ?_
                refine va_put (D := D) (ci := 3) (v := .int (iI ((pt) + (k)))) (ty := .int) (C := R_Ro) (T := T_Ro) (N := 3) hx hb hts (fun w h => List.mem_cons_of_mem _ (in_Ro w h)) y_Ro t_Ro n_Ro hown hK hP hD hS 1 rfl rfl 2 (by decide) (hts _ (List.mem_cons_of_mem _ tw_364)) (fun _ h9 => h9) rfl (by decide +kernel) rfl rfl (Nat.le_of_ble_eq_true rfl) d_Mo_move_85 (fun H locs hP hD hS => ?_)
                have hP : va_P D ecl [(mo, .inr (4, [.ref nb, .ref un, .ref ov, .ref xx, .ref dc, .int (iI (zl)), .int (iI (0)), .long (ma), .int (iI (pw)), .int (iI (zk))])), (nb, .inr (3, [.ref nd, .int (iI (((dl X : Nat) : Int))), .int (iI ((pt) + (k)))])), (nd, .inl (cB, 4200, .inl d))] H := hP
                have hD : va_D A [(mo, .inr (4, [.ref nb, .ref un, .ref ov, .ref xx, .ref dc, .int (iI (zl)), .int (iI (0)), .long (ma), .int (iI (pw)), .int (iI (zk))])), (nb, .inr (3, [.ref nd, .int (iI (((dl X : Nat) : Int))), .int (iI ((pt) + (k)))])), (nd, .inl (cB, 4200, .inl d))] := hD
                refine lv_iload_n hx hb d_Mo_move_88 rfl (lv_at hl 0 rfl) ?_
                exact W.iret (v := (iI ((pt) + (k)))) hx hb hr (fun t9 ht9 hW9 => ⟨⟨(iI ((pt) + (k))), [(mo, .inr (4, [.ref nb, .ref un, .ref ov, .ref xx, .ref dc, .int (iI (zl)), .int (iI (0)), .long (ma), .int (iI (pw)), .int (iI (zk))])), (nb, .inr (3, [.ref nd, .int (iI (((dl X : Nat) : Int))), .int (iI ((pt) + (k)))])), (nd, .inl (cB, 4200, .inl d))], rfl, ⟨by rw [if_neg (by omega)], by rw [if_neg (by omega)]⟩, by rw [ht9]; exact hP, hD⟩, hS.F ht9⟩) hS.2.2 d_Mo_move_89
              · exact absurd h_7 (by omega)
            · exact absurd h_6 (by omega)
    · exact absurd h_2 (by omega)
  · skip
    refine ed_pc (pc' := 10) rfl ?_
    refine lv_iconst (v := iI 1) hx hb d_Mo_move_10 rfl ?_
    refine lv_goto (tgt := 15) hx hb d_Mo_move_11 rfl ?_
    refine lv_istore_n hx hb d_Mo_move_15 rfl hl (by decide) rfl (fun ls hl => ?_)
    have hl : lv_has ls 4 [(2, .int (iI (1))), (0, .ref mo), (1, .int (iI (k)))] := hl
    refine ed_pc (pc' := 16) rfl ?_
    refine lv_iload_n hx hb d_Mo_move_16 rfl (lv_at hl 0 rfl) ?_
    refine ed_if_eq (tgt := 24) hx hb d_Mo_move_17 rfl (by omega) (fun h_8 => ?_) (fun h_8 => ?_)
    · exact absurd h_8 (by omega)
    · skip
      refine ed_pc (pc' := 20) rfl ?_
      refine lv_iconst (v := iI 0) hx hb d_Mo_move_20 rfl ?_
      refine lv_goto (tgt := 33) hx hb d_Mo_move_21 rfl ?_
      refine lv_istore_n hx hb d_Mo_move_33 rfl hl (by decide) rfl (fun ls hl => ?_)
      have hl : lv_has ls 4 [(3, .int (iI (0))), (2, .int (iI (1))), (0, .ref mo), (1, .int (iI (k)))] := hl
      refine lv_aload_n hx hb d_Mo_move_34 rfl (lv_at hl 2 rfl) ?_
      refine lv_iload_n hx hb d_Mo_move_35 rfl (lv_at hl 3 rfl) ?_
      refine lv_sipush (v := iI (-5000)) hx hb d_Mo_move_36 (by decide +kernel) ?_
      refine ed_pc (pc' := 39) rfl ?_
      refine ed_icmp_lt (tgt := 63) hx hb d_Mo_move_39 rfl (by omega) (by omega) (fun h_9 => ?_) (fun h_9 => ?_)
      · exact absurd h_9 (by omega)
      · skip
        refine ed_pc (pc' := 42) rfl ?_
        refine lv_iload_n hx hb d_Mo_move_42 rfl (lv_at hl 3 rfl) ?_
        refine lv_sipush (v := iI 5000) hx hb d_Mo_move_43 (by decide +kernel) ?_
        refine ed_icmp_gt (tgt := 63) hx hb d_Mo_move_46 rfl (by omega) (by omega) (fun h_10 => ?_) (fun h_10 => ?_)
        · exact absurd h_10 (by omega)
        · skip
          refine ed_pc (pc' := 49) rfl ?_
          refine lv_iload_n hx hb d_Mo_move_49 rfl (lv_at hl 0 rfl) ?_
          refine lv_sipush (v := iI (-10000)) hx hb d_Mo_move_50 (by decide +kernel) ?_
          refine ed_icmp_lt (tgt := 63) hx hb d_Mo_move_53 rfl (by omega) (by omega) (fun h_11 => ?_) (fun h_11 => ?_)
          · exact absurd h_11 (by omega)
          · skip
            refine ed_pc (pc' := 56) rfl ?_
            refine lv_iload_n hx hb d_Mo_move_56 rfl (lv_at hl 0 rfl) ?_
            refine ed_pc (pc' := 57) rfl ?_
            refine lv_sipush (v := iI 10000) hx hb d_Mo_move_57 (by decide +kernel) ?_
            refine ed_icmp_le (tgt := 67) hx hb d_Mo_move_60 rfl (by omega) (by omega) (fun h_12 => ?_) (fun h_12 => ?_)
            · skip
              refine ed_pc (pc' := 67) rfl ?_
              refine lv_iconst (v := iI 0) hx hb d_Mo_move_67 rfl ?_
              refine va_put (D := D) (ci := 4) (v := .int (iI (0))) (ty := .int) (C := R_Mo) (T := T_Mo) (N := 10) hx hb hts (fun w h => List.mem_cons_of_mem _ (in_Mo w h)) y_Mo t_Mo n_Mo hown hK hP hD hS 0 rfl rfl 6 (by decide) (hts _ (List.mem_cons_of_mem _ tw_396)) (fun _ h9 => h9) rfl (by decide +kernel) rfl rfl (Nat.le_of_ble_eq_true rfl) d_Mo_move_68 (fun H locs hP hD hS => ?_)
              have hP : va_P D ecl [(mo, .inr (4, [.ref nb, .ref un, .ref ov, .ref xx, .ref dc, .int (iI (zl)), .int (iI (0)), .long (ma), .int (iI (pw)), .int (iI (zk))])), (nb, .inr (3, [.ref nd, .int (iI (((dl X : Nat) : Int))), .int (iI (pt))])), (nd, .inl (cB, 4200, .inl d))] H := hP
              have hD : va_D A [(mo, .inr (4, [.ref nb, .ref un, .ref ov, .ref xx, .ref dc, .int (iI (zl)), .int (iI (0)), .long (ma), .int (iI (pw)), .int (iI (zk))])), (nb, .inr (3, [.ref nd, .int (iI (((dl X : Nat) : Int))), .int (iI (pt))])), (nd, .inl (cB, 4200, .inl d))] := hD
              refine lv_aload_n hx hb d_Mo_move_71 rfl (lv_at hl 2 rfl) ?_
              refine va_get (D := D) (ci := 4) (v := .int (iI (0))) (C := R_Mo) (T := T_Mo) (N := 10) hx hb hts (fun w h => List.mem_cons_of_mem _ (in_Mo w h)) hown hK hP 0 rfl rfl 6 (by decide) (hts _ (List.mem_cons_of_mem _ tw_396)) (fun _ h9 => h9) rfl d_Mo_move_72 ?_
              refine ed_if_le (tgt := 80) hx hb d_Mo_move_75 rfl (by omega) (fun h_13 => ?_) (fun h_13 => ?_)
              · skip
                refine ed_pc (pc' := 80) rfl ?_
                refine lv_aload_n hx hb d_Mo_move_80 rfl (lv_at hl 2 rfl) ?_
                refine ed_pc (pc' := 81) rfl ?_
                refine va_get (D := D) (ci := 4) (v := .ref nb) (C := R_Mo) (T := T_Mo) (N := 10) hx hb hts (fun w h => List.mem_cons_of_mem _ (in_Mo w h)) hown hK hP 0 rfl rfl 0 (by decide) (hts _ (List.mem_cons_of_mem _ tw_390)) (fun _ h9 => h9) rfl d_Mo_move_81 ?_
                refine lv_iload_n hx hb d_Mo_move_84 rfl (lv_at hl 0 rfl) ?_
                refine va_put (D := D) (ci := 3) (v := .int (iI (0))) (ty := .int) (C := R_Ro) (T := T_Ro) (N := 3) hx hb hts (fun w h => List.mem_cons_of_mem _ (in_Ro w h)) y_Ro t_Ro n_Ro hown hK hP hD hS 1 rfl rfl 2 (by decide) (hts _ (List.mem_cons_of_mem _ tw_364)) (fun _ h9 => h9) rfl (by decide +kernel) rfl rfl (Nat.le_of_ble_eq_true rfl) d_Mo_move_85 (fun H locs hP hD hS => ?_)
                have hP : va_P D ecl [(mo, .inr (4, [.ref nb, .ref un, .ref ov, .ref xx, .ref dc, .int (iI (zl)), .int (iI (0)), .long (ma), .int (iI (pw)), .int (iI (zk))])), (nb, .inr (3, [.ref nd, .int (iI (((dl X : Nat) : Int))), .int (iI (0))])), (nd, .inl (cB, 4200, .inl d))] H := hP
                have hD : va_D A [(mo, .inr (4, [.ref nb, .ref un, .ref ov, .ref xx, .ref dc, .int (iI (zl)), .int (iI (0)), .long (ma), .int (iI (pw)), .int (iI (zk))])), (nb, .inr (3, [.ref nd, .int (iI (((dl X : Nat) : Int))), .int (iI (0))])), (nd, .inl (cB, 4200, .inl d))] := hD
                refine lv_iload_n hx hb d_Mo_move_88 rfl (lv_at hl 0 rfl) ?_
                exact W.iret (v := (iI (0))) hx hb hr (fun t9 ht9 hW9 => ⟨⟨(iI (0)), [(mo, .inr (4, [.ref nb, .ref un, .ref ov, .ref xx, .ref dc, .int (iI (zl)), .int (iI (0)), .long (ma), .int (iI (pw)), .int (iI (zk))])), (nb, .inr (3, [.ref nd, .int (iI (((dl X : Nat) : Int))), .int (iI (0))])), (nd, .inl (cB, 4200, .inl d))], rfl, ⟨by rw [if_pos (hd0.mp (by omega))], by rw [if_pos (hd0.mp (by omega)), h0 (hd0.mp (by omega))]⟩, by rw [ht9]; exact hP, hD⟩, hS.F ht9⟩) hS.2.2 d_Mo_move_89
              · exact absurd h_13 (by omega)
            · exact absurd h_12 (by omega)
set_option maxHeartbeats 4000000 in
set_option maxRecDepth 100000 in
theorem c_Mo_move_no (l : Launch) (D : va_G) (cB cI cJ : ClassId) (t5 : Nat) (ad : Nat → Nat) (mo nb nd un ov xx dc : Nat) (d : Nat → Int32) (pt zl th pw zk : Int) (ma : Int64) (X : Nat) (k : Int) (hX12 : dl X ≤ 1200) (hpt : -9000000 ≤ pt ∧ pt ≤ 9000000) (hk : iR k) (hm : k < -5000 ∨ 5000 < k ∨ (¬ X = 0 ∧ (pt + k < -10000 ∨ 10000 < pt + k))) : c_I l m_Mo_move (Cond.code m_Mo_move b_Mo_move 4 (some .int) :: gw) (rm_ 0 0) (eX t5 ad) D ecl (tyS cB cI cJ) [.ref mo, .int (iI (k))] [(mo, .inr (4, [.ref nb, .ref un, .ref ov, .ref xx, .ref dc, .int (iI (zl)), .int (iI (th)), .long (ma), .int (iI (pw)), .int (iI (zk))])), (nb, .inr (3, [.ref nd, .int (iI (((dl X : Nat) : Int))), .int (iI (pt))])), (nd, .inl (cB, 4200, .inl d))] (fun r u => r = iI 0 ∧ u = [(mo, .inr (4, [.ref nb, .ref un, .ref ov, .ref xx, .ref dc, .int (iI (zl)), .int (iI (1)), .long (ma), .int (iI (pw)), .int (iI (zk))])), (nb, .inr (3, [.ref nd, .int (iI (((dl X : Nat) : Int))), .int (iI (pt))])), (nd, .inl (cB, 4200, .inl d))]) 0 0 := by
  intro sz0
  refine Met.ofW (cc := b_Mo_move) (maxL := 4) (ret := (some .int)) (by decide) rfl ?_
  intro p e s m args below meth c s₁ B hml hv
  obtain ⟨rfl, hsz, hP, hK, hD0, hE⟩ := hv
  have hx := B.exec
  have hb := B.bytes
  have hr := B.returns
  have hts := atoms_spec (ws := Cond.code m_Mo_move b_Mo_move 4 (some .int) :: gw) B.pre
  have hown : s.vm.findClass R_Mo = some m.cls := findClass_of_methodNamed B.named
  have hlocks := B.notSynchronized
  subst hsz
  have hD := hD0.self (sz := s.heap.size)
  generalize hAe : va_A [(mo, .inr (4, [.ref nb, .ref un, .ref ov, .ref xx, .ref dc, .int (iI (zl)), .int (iI (th)), .long (ma), .int (iI (pw)), .int (iI (zk))])), (nb, .inr (3, [.ref nd, .int (iI (((dl X : Nat) : Int))), .int (iI (pt))])), (nd, .inl (cB, 4200, .inl d))] s.heap.size = A at hD hE ⊢
  have hA : ∀ q : Nat, s.heap.size ≤ q → A q := fun q h => by rw [← hAe]; exact Or.inr h
  have hS : va_S A s.heap s.heap [] := va_S.rf
  have hl := lv_entry ([.ref mo, .int (iI (k))]) (n := 4) (Nat.le_of_ble_eq_true rfl)
  rw [lg_entry_eq]
  generalize (lg_sl ([.ref mo, .int (iI (k))]) ++ List.replicate (4 - (lg_sl ([.ref mo, .int (iI (k))])).length) Slot.unset).toArray = ls at hl ⊢
  have hl : lv_has ls 4 [(0, .ref mo), (1, .int (iI (k)))] := hl
  have hd0 : dl X = 0 ↔ X = 0 := ⟨fun z => dl_eq0 z, fun z => by rw [z, dl_0]⟩
  refine lv_aload_n hx hb d_Mo_move_0 rfl (lv_at hl 0 rfl) ?_
  refine va_get (D := D) (ci := 4) (v := .ref nb) (C := R_Mo) (T := T_Mo) (N := 10) hx hb hts (fun w h => List.mem_cons_of_mem _ (in_Mo w h)) hown hK hP 0 rfl rfl 0 (by decide) (hts _ (List.mem_cons_of_mem _ tw_390)) (fun _ h9 => h9) rfl d_Mo_move_1 ?_
  refine va_get (D := D) (ci := 3) (v := .int (iI (((dl X : Nat) : Int)))) (C := R_Ro) (T := T_Ro) (N := 3) hx hb hts (fun w h => List.mem_cons_of_mem _ (in_Ro w h)) hown hK hP 1 rfl rfl 1 (by decide) (hts _ (List.mem_cons_of_mem _ tw_362)) (fun _ h9 => h9) rfl d_Mo_move_4 ?_
  refine ed_if_ne (tgt := 14) hx hb d_Mo_move_7 rfl (by omega) (fun h_1 => ?_) (fun h_1 => ?_)
  · skip
    refine ed_pc (pc' := 14) rfl ?_
    refine lv_iconst (v := iI 0) hx hb d_Mo_move_14 rfl ?_
    refine lv_istore_n hx hb d_Mo_move_15 rfl hl (by decide) rfl (fun ls hl => ?_)
    have hl : lv_has ls 4 [(2, .int (iI (0))), (0, .ref mo), (1, .int (iI (k)))] := hl
    refine lv_iload_n hx hb d_Mo_move_16 rfl (lv_at hl 0 rfl) ?_
    refine ed_pc (pc' := 17) rfl ?_
    refine ed_if_eq (tgt := 24) hx hb d_Mo_move_17 rfl (by omega) (fun h_2 => ?_) (fun h_2 => ?_)
    · skip
      refine ed_pc (pc' := 24) rfl ?_
      refine lv_aload_n hx hb d_Mo_move_24 rfl (lv_at hl 1 rfl) ?_
      refine va_get (D := D) (ci := 4) (v := .ref nb) (C := R_Mo) (T := T_Mo) (N := 10) hx hb hts (fun w h => List.mem_cons_of_mem _ (in_Mo w h)) hown hK hP 0 rfl rfl 0 (by decide) (hts _ (List.mem_cons_of_mem _ tw_390)) (fun _ h9 => h9) rfl d_Mo_move_25 ?_
      refine va_get (D := D) (ci := 3) (v := .int (iI (pt))) (C := R_Ro) (T := T_Ro) (N := 3) hx hb hts (fun w h => List.mem_cons_of_mem _ (in_Ro w h)) hown hK hP 1 rfl rfl 2 (by decide) (hts _ (List.mem_cons_of_mem _ tw_364)) (fun _ h9 => h9) rfl d_Mo_move_28 ?_
      refine lv_iload_n hx hb d_Mo_move_31 rfl (lv_at hl 2 rfl) ?_
      refine ed_iadd hx hb d_Mo_move_32 ?_
      refine lv_istore_n hx hb d_Mo_move_33 rfl hl (by decide) rfl (fun ls hl => ?_)
      have hl : lv_has ls 4 [(3, .int (iI ((pt) + (k)))), (2, .int (iI (0))), (0, .ref mo), (1, .int (iI (k)))] := hl
      refine lv_aload_n hx hb d_Mo_move_34 rfl (lv_at hl 2 rfl) ?_
      refine ed_pc (pc' := 35) rfl ?_
      refine lv_iload_n hx hb d_Mo_move_35 rfl (lv_at hl 3 rfl) ?_
      refine lv_sipush (v := iI (-5000)) hx hb d_Mo_move_36 (by decide +kernel) ?_
      refine ed_icmp_lt (tgt := 63) hx hb d_Mo_move_39 rfl (by omega) (by omega) (fun h_3 => ?_) (fun h_3 => ?_)
      · skip
        refine ed_pc (pc' := 63) rfl ?_
        refine lv_iconst (v := iI 1) hx hb d_Mo_move_63 rfl ?_
        refine lv_goto (tgt := 68) hx hb d_Mo_move_64 rfl ?_
        refine va_put (D := D) (ci := 4) (v := .int (iI (1))) (ty := .int) (C := R_Mo) (T := T_Mo) (N := 10) hx hb hts (fun w h => List.mem_cons_of_mem _ (in_Mo w h)) y_Mo t_Mo n_Mo hown hK hP hD hS 0 rfl rfl 6 (by decide) (hts _ (List.mem_cons_of_mem _ tw_396)) (fun _ h9 => h9) rfl (by decide +kernel) rfl rfl (Nat.le_of_ble_eq_true rfl) d_Mo_move_68 (fun H locs hP hD hS => ?_)
        have hP : va_P D ecl [(mo, .inr (4, [.ref nb, .ref un, .ref ov, .ref xx, .ref dc, .int (iI (zl)), .int (iI (1)), .long (ma), .int (iI (pw)), .int (iI (zk))])), (nb, .inr (3, [.ref nd, .int (iI (((dl X : Nat) : Int))), .int (iI (pt))])), (nd, .inl (cB, 4200, .inl d))] H := hP
        have hD : va_D A [(mo, .inr (4, [.ref nb, .ref un, .ref ov, .ref xx, .ref dc, .int (iI (zl)), .int (iI (1)), .long (ma), .int (iI (pw)), .int (iI (zk))])), (nb, .inr (3, [.ref nd, .int (iI (((dl X : Nat) : Int))), .int (iI (pt))])), (nd, .inl (cB, 4200, .inl d))] := hD
        refine lv_aload_n hx hb d_Mo_move_71 rfl (lv_at hl 2 rfl) ?_
        refine va_get (D := D) (ci := 4) (v := .int (iI (1))) (C := R_Mo) (T := T_Mo) (N := 10) hx hb hts (fun w h => List.mem_cons_of_mem _ (in_Mo w h)) hown hK hP 0 rfl rfl 6 (by decide) (hts _ (List.mem_cons_of_mem _ tw_396)) (fun _ h9 => h9) rfl d_Mo_move_72 ?_
        refine ed_pc (pc' := 75) rfl ?_
        refine ed_if_le (tgt := 80) hx hb d_Mo_move_75 rfl (by omega) (fun h_4 => ?_) (fun h_4 => ?_)
        · exact absurd h_4 (by omega)
        · skip
          refine ed_pc (pc' := 78) rfl ?_
          refine lv_iconst (v := iI 0) hx hb d_Mo_move_78 rfl ?_
          exact W.iret (v := (iI (0))) hx hb hr (fun t9 ht9 hW9 => ⟨⟨(iI (0)), [(mo, .inr (4, [.ref nb, .ref un, .ref ov, .ref xx, .ref dc, .int (iI (zl)), .int (iI (1)), .long (ma), .int (iI (pw)), .int (iI (zk))])), (nb, .inr (3, [.ref nd, .int (iI (((dl X : Nat) : Int))), .int (iI (pt))])), (nd, .inl (cB, 4200, .inl d))], rfl, ⟨rfl, rfl⟩, by rw [ht9]; exact hP, hD⟩, hS.F ht9⟩) hS.2.2 d_Mo_move_79
      · skip
        refine ed_pc (pc' := 42) rfl ?_
        refine lv_iload_n hx hb d_Mo_move_42 rfl (lv_at hl 3 rfl) ?_
        refine lv_sipush (v := iI 5000) hx hb d_Mo_move_43 (by decide +kernel) ?_
        refine ed_icmp_gt (tgt := 63) hx hb d_Mo_move_46 rfl (by omega) (by omega) (fun h_5 => ?_) (fun h_5 => ?_)
        · skip
          refine ed_pc (pc' := 63) rfl ?_
          refine lv_iconst (v := iI 1) hx hb d_Mo_move_63 rfl ?_
          refine lv_goto (tgt := 68) hx hb d_Mo_move_64 rfl ?_
          refine ed_pc (pc' := 68) rfl ?_
          refine va_put (D := D) (ci := 4) (v := .int (iI (1))) (ty := .int) (C := R_Mo) (T := T_Mo) (N := 10) hx hb hts (fun w h => List.mem_cons_of_mem _ (in_Mo w h)) y_Mo t_Mo n_Mo hown hK hP hD hS 0 rfl rfl 6 (by decide) (hts _ (List.mem_cons_of_mem _ tw_396)) (fun _ h9 => h9) rfl (by decide +kernel) rfl rfl (Nat.le_of_ble_eq_true rfl) d_Mo_move_68 (fun H locs hP hD hS => ?_)
          have hP : va_P D ecl [(mo, .inr (4, [.ref nb, .ref un, .ref ov, .ref xx, .ref dc, .int (iI (zl)), .int (iI (1)), .long (ma), .int (iI (pw)), .int (iI (zk))])), (nb, .inr (3, [.ref nd, .int (iI (((dl X : Nat) : Int))), .int (iI (pt))])), (nd, .inl (cB, 4200, .inl d))] H := hP
          have hD : va_D A [(mo, .inr (4, [.ref nb, .ref un, .ref ov, .ref xx, .ref dc, .int (iI (zl)), .int (iI (1)), .long (ma), .int (iI (pw)), .int (iI (zk))])), (nb, .inr (3, [.ref nd, .int (iI (((dl X : Nat) : Int))), .int (iI (pt))])), (nd, .inl (cB, 4200, .inl d))] := hD
          refine lv_aload_n hx hb d_Mo_move_71 rfl (lv_at hl 2 rfl) ?_
          refine va_get (D := D) (ci := 4) (v := .int (iI (1))) (C := R_Mo) (T := T_Mo) (N := 10) hx hb hts (fun w h => List.mem_cons_of_mem _ (in_Mo w h)) hown hK hP 0 rfl rfl 6 (by decide) (hts _ (List.mem_cons_of_mem _ tw_396)) (fun _ h9 => h9) rfl d_Mo_move_72 ?_
          refine ed_if_le (tgt := 80) hx hb d_Mo_move_75 rfl (by omega) (fun h_6 => ?_) (fun h_6 => ?_)
          · exact absurd h_6 (by omega)
          · skip
            refine ed_pc (pc' := 78) rfl ?_
            refine lv_iconst (v := iI 0) hx hb d_Mo_move_78 rfl ?_
            exact W.iret (v := (iI (0))) hx hb hr (fun t9 ht9 hW9 => ⟨⟨(iI (0)), [(mo, .inr (4, [.ref nb, .ref un, .ref ov, .ref xx, .ref dc, .int (iI (zl)), .int (iI (1)), .long (ma), .int (iI (pw)), .int (iI (zk))])), (nb, .inr (3, [.ref nd, .int (iI (((dl X : Nat) : Int))), .int (iI (pt))])), (nd, .inl (cB, 4200, .inl d))], rfl, ⟨rfl, rfl⟩, by rw [ht9]; exact hP, hD⟩, hS.F ht9⟩) hS.2.2 d_Mo_move_79
        · skip
          refine ed_pc (pc' := 49) rfl ?_
          refine lv_iload_n hx hb d_Mo_move_49 rfl (lv_at hl 0 rfl) ?_
          refine lv_sipush (v := iI (-10000)) hx hb d_Mo_move_50 (by decide +kernel) ?_
          refine ed_pc (pc' := 53) rfl ?_
          refine ed_icmp_lt (tgt := 63) hx hb d_Mo_move_53 rfl (by omega) (by omega) (fun h_7 => ?_) (fun h_7 => ?_)
          · skip
            refine ed_pc (pc' := 63) rfl ?_
            refine lv_iconst (v := iI 1) hx hb d_Mo_move_63 rfl ?_
            refine lv_goto (tgt := 68) hx hb d_Mo_move_64 rfl ?_
            refine va_put (D := D) (ci := 4) (v := .int (iI (1))) (ty := .int) (C := R_Mo) (T := T_Mo) (N := 10) hx hb hts (fun w h => List.mem_cons_of_mem _ (in_Mo w h)) y_Mo t_Mo n_Mo hown hK hP hD hS 0 rfl rfl 6 (by decide) (hts _ (List.mem_cons_of_mem _ tw_396)) (fun _ h9 => h9) rfl (by decide +kernel) rfl rfl (Nat.le_of_ble_eq_true rfl) d_Mo_move_68 (fun H locs hP hD hS => ?_)
            have hP : va_P D ecl [(mo, .inr (4, [.ref nb, .ref un, .ref ov, .ref xx, .ref dc, .int (iI (zl)), .int (iI (1)), .long (ma), .int (iI (pw)), .int (iI (zk))])), (nb, .inr (3, [.ref nd, .int (iI (((dl X : Nat) : Int))), .int (iI (pt))])), (nd, .inl (cB, 4200, .inl d))] H := hP
            have hD : va_D A [(mo, .inr (4, [.ref nb, .ref un, .ref ov, .ref xx, .ref dc, .int (iI (zl)), .int (iI (1)), .long (ma), .int (iI (pw)), .int (iI (zk))])), (nb, .inr (3, [.ref nd, .int (iI (((dl X : Nat) : Int))), .int (iI (pt))])), (nd, .inl (cB, 4200, .inl d))] := hD
            refine lv_aload_n hx hb d_Mo_move_71 rfl (lv_at hl 2 rfl) ?_
            refine va_get (D := D) (ci := 4) (v := .int (iI (1))) (C := R_Mo) (T := T_Mo) (N := 10) hx hb hts (fun w h => List.mem_cons_of_mem _ (in_Mo w h)) hown hK hP 0 rfl rfl 6 (by decide) (hts _ (List.mem_cons_of_mem _ tw_396)) (fun _ h9 => h9) rfl d_Mo_move_72 ?_
            refine ed_if_le (tgt := 80) hx hb d_Mo_move_75 rfl (by omega) (fun h_8 => ?_) (fun h_8 => ?_)
            · exact absurd h_8 (by omega)
            · skip
              refine ed_pc (pc' := 78) rfl ?_
              refine lv_iconst (v := iI 0) hx hb d_Mo_move_78 rfl ?_
              exact W.iret (v := (iI (0))) hx hb hr (fun t9 ht9 hW9 => ⟨⟨(iI (0)), [(mo, .inr (4, [.ref nb, .ref un, .ref ov, .ref xx, .ref dc, .int (iI (zl)), .int (iI (1)), .long (ma), .int (iI (pw)), .int (iI (zk))])), (nb, .inr (3, [.ref nd, .int (iI (((dl X : Nat) : Int))), .int (iI (pt))])), (nd, .inl (cB, 4200, .inl d))], rfl, ⟨rfl, rfl⟩, by rw [ht9]; exact hP, hD⟩, hS.F ht9⟩) hS.2.2 d_Mo_move_79
          · skip
            refine ed_pc (pc' := 56) rfl ?_
            refine lv_iload_n hx hb d_Mo_move_56 rfl (lv_at hl 0 rfl) ?_
            refine lv_sipush (v := iI 10000) hx hb d_Mo_move_57 (by decide +kernel) ?_
            refine ed_icmp_le (tgt := 67) hx hb d_Mo_move_60 rfl (by omega) (by omega) (fun h_9 => ?_) (fun h_9 => ?_)
            · skip
              refine ed_pc (pc' := 67) rfl ?_
              exfalso; omega
            · skip
              refine ed_pc (pc' := 63) rfl ?_
              refine lv_iconst (v := iI 1) hx hb d_Mo_move_63 rfl ?_
              refine lv_goto (tgt := 68) hx hb d_Mo_move_64 rfl ?_
              refine va_put (D := D) (ci := 4) (v := .int (iI (1))) (ty := .int) (C := R_Mo) (T := T_Mo) (N := 10) hx hb hts (fun w h => List.mem_cons_of_mem _ (in_Mo w h)) y_Mo t_Mo n_Mo hown hK hP hD hS 0 rfl rfl 6 (by decide) (hts _ (List.mem_cons_of_mem _ tw_396)) (fun _ h9 => h9) rfl (by decide +kernel) rfl rfl (Nat.le_of_ble_eq_true rfl) d_Mo_move_68 (fun H locs hP hD hS => ?_)
              have hP : va_P D ecl [(mo, .inr (4, [.ref nb, .ref un, .ref ov, .ref xx, .ref dc, .int (iI (zl)), .int (iI (1)), .long (ma), .int (iI (pw)), .int (iI (zk))])), (nb, .inr (3, [.ref nd, .int (iI (((dl X : Nat) : Int))), .int (iI (pt))])), (nd, .inl (cB, 4200, .inl d))] H := hP
              have hD : va_D A [(mo, .inr (4, [.ref nb, .ref un, .ref ov, .ref xx, .ref dc, .int (iI (zl)), .int (iI (1)), .long (ma), .int (iI (pw)), .int (iI (zk))])), (nb, .inr (3, [.ref nd, .int (iI (((dl X : Nat) : Int))), .int (iI (pt))])), (nd, .inl (cB, 4200, .inl d))] := hD
              refine lv_aload_n hx hb d_Mo_move_71 rfl (lv_at hl 2 rfl) ?_
              refine ed_pc (pc' := 72) rfl ?_
              refine va_get (D := D) (ci := 4) (v := .int (iI (1))) (C := R_Mo) (T := T_Mo) (N := 10) hx hb hts (fun w h => List.mem_cons_of_mem _ (in_Mo w h)) hown hK hP 0 rfl rfl 6 (by decide) (hts _ (List.mem_cons_of_mem _ tw_396)) (fun _ h9 => h9) rfl d_Mo_move_72 ?_
              refine ed_if_le (tgt := 80) hx hb d_Mo_move_75 rfl (by omega) (fun h_10 => ?_) (fun h_10 => ?_)
              · exact absurd h_10 (by omega)
              · skip
                refine ed_pc (pc' := 78) rfl ?_
                refine lv_iconst (v := iI 0) hx hb d_Mo_move_78 rfl ?_
                exact W.iret (v := (iI (0))) hx hb hr (fun t9 ht9 hW9 => ⟨⟨(iI (0)), [(mo, .inr (4, [.ref nb, .ref un, .ref ov, .ref xx, .ref dc, .int (iI (zl)), .int (iI (1)), .long (ma), .int (iI (pw)), .int (iI (zk))])), (nb, .inr (3, [.ref nd, .int (iI (((dl X : Nat) : Int))), .int (iI (pt))])), (nd, .inl (cB, 4200, .inl d))], rfl, ⟨rfl, rfl⟩, by rw [ht9]; exact hP, hD⟩, hS.F ht9⟩) hS.2.2 d_Mo_move_79
    · exact absurd h_2 (by omega)
  · skip
    refine ed_pc (pc' := 10) rfl ?_
    refine lv_iconst (v := iI 1) hx hb d_Mo_move_10 rfl ?_
    refine lv_goto (tgt := 15) hx hb d_Mo_move_11 rfl ?_
    refine lv_istore_n hx hb d_Mo_move_15 rfl hl (by decide) rfl (fun ls hl => ?_)
    have hl : lv_has ls 4 [(2, .int (iI (1))), (0, .ref mo), (1, .int (iI (k)))] := hl
    refine ed_pc (pc' := 16) rfl ?_
    refine lv_iload_n hx hb d_Mo_move_16 rfl (lv_at hl 0 rfl) ?_
    refine ed_if_eq (tgt := 24) hx hb d_Mo_move_17 rfl (by omega) (fun h_11 => ?_) (fun h_11 => ?_)
    · exact absurd h_11 (by omega)
    · skip
      refine ed_pc (pc' := 20) rfl ?_
      refine lv_iconst (v := iI 0) hx hb d_Mo_move_20 rfl ?_
      refine lv_goto (tgt := 33) hx hb d_Mo_move_21 rfl ?_
      refine lv_istore_n hx hb d_Mo_move_33 rfl hl (by decide) rfl (fun ls hl => ?_)
      have hl : lv_has ls 4 [(3, .int (iI (0))), (2, .int (iI (1))), (0, .ref mo), (1, .int (iI (k)))] := hl
      refine lv_aload_n hx hb d_Mo_move_34 rfl (lv_at hl 2 rfl) ?_
      refine lv_iload_n hx hb d_Mo_move_35 rfl (lv_at hl 3 rfl) ?_
      refine lv_sipush (v := iI (-5000)) hx hb d_Mo_move_36 (by decide +kernel) ?_
      refine ed_pc (pc' := 39) rfl ?_
      refine ed_icmp_lt (tgt := 63) hx hb d_Mo_move_39 rfl (by omega) (by omega) (fun h_12 => ?_) (fun h_12 => ?_)
      · skip
        refine ed_pc (pc' := 63) rfl ?_
        refine lv_iconst (v := iI 1) hx hb d_Mo_move_63 rfl ?_
        refine lv_goto (tgt := 68) hx hb d_Mo_move_64 rfl ?_
        refine va_put (D := D) (ci := 4) (v := .int (iI (1))) (ty := .int) (C := R_Mo) (T := T_Mo) (N := 10) hx hb hts (fun w h => List.mem_cons_of_mem _ (in_Mo w h)) y_Mo t_Mo n_Mo hown hK hP hD hS 0 rfl rfl 6 (by decide) (hts _ (List.mem_cons_of_mem _ tw_396)) (fun _ h9 => h9) rfl (by decide +kernel) rfl rfl (Nat.le_of_ble_eq_true rfl) d_Mo_move_68 (fun H locs hP hD hS => ?_)
        have hP : va_P D ecl [(mo, .inr (4, [.ref nb, .ref un, .ref ov, .ref xx, .ref dc, .int (iI (zl)), .int (iI (1)), .long (ma), .int (iI (pw)), .int (iI (zk))])), (nb, .inr (3, [.ref nd, .int (iI (((dl X : Nat) : Int))), .int (iI (pt))])), (nd, .inl (cB, 4200, .inl d))] H := hP
        have hD : va_D A [(mo, .inr (4, [.ref nb, .ref un, .ref ov, .ref xx, .ref dc, .int (iI (zl)), .int (iI (1)), .long (ma), .int (iI (pw)), .int (iI (zk))])), (nb, .inr (3, [.ref nd, .int (iI (((dl X : Nat) : Int))), .int (iI (pt))])), (nd, .inl (cB, 4200, .inl d))] := hD
        refine lv_aload_n hx hb d_Mo_move_71 rfl (lv_at hl 2 rfl) ?_
        refine va_get (D := D) (ci := 4) (v := .int (iI (1))) (C := R_Mo) (T := T_Mo) (N := 10) hx hb hts (fun w h => List.mem_cons_of_mem _ (in_Mo w h)) hown hK hP 0 rfl rfl 6 (by decide) (hts _ (List.mem_cons_of_mem _ tw_396)) (fun _ h9 => h9) rfl d_Mo_move_72 ?_
        refine ed_if_le (tgt := 80) hx hb d_Mo_move_75 rfl (by omega) (fun h_13 => ?_) (fun h_13 => ?_)
        · exact absurd h_13 (by omega)
        · skip
          refine ed_pc (pc' := 78) rfl ?_
          refine lv_iconst (v := iI 0) hx hb d_Mo_move_78 rfl ?_
          exact W.iret (v := (iI (0))) hx hb hr (fun t9 ht9 hW9 => ⟨⟨(iI (0)), [(mo, .inr (4, [.ref nb, .ref un, .ref ov, .ref xx, .ref dc, .int (iI (zl)), .int (iI (1)), .long (ma), .int (iI (pw)), .int (iI (zk))])), (nb, .inr (3, [.ref nd, .int (iI (((dl X : Nat) : Int))), .int (iI (pt))])), (nd, .inl (cB, 4200, .inl d))], rfl, ⟨rfl, rfl⟩, by rw [ht9]; exact hP, hD⟩, hS.F ht9⟩) hS.2.2 d_Mo_move_79
      · skip
        refine ed_pc (pc' := 42) rfl ?_
        refine lv_iload_n hx hb d_Mo_move_42 rfl (lv_at hl 3 rfl) ?_
        refine lv_sipush (v := iI 5000) hx hb d_Mo_move_43 (by decide +kernel) ?_
        refine ed_icmp_gt (tgt := 63) hx hb d_Mo_move_46 rfl (by omega) (by omega) (fun h_14 => ?_) (fun h_14 => ?_)
        · skip
          refine ed_pc (pc' := 63) rfl ?_
          refine lv_iconst (v := iI 1) hx hb d_Mo_move_63 rfl ?_
          refine lv_goto (tgt := 68) hx hb d_Mo_move_64 rfl ?_
          refine va_put (D := D) (ci := 4) (v := .int (iI (1))) (ty := .int) (C := R_Mo) (T := T_Mo) (N := 10) hx hb hts (fun w h => List.mem_cons_of_mem _ (in_Mo w h)) y_Mo t_Mo n_Mo hown hK hP hD hS 0 rfl rfl 6 (by decide) (hts _ (List.mem_cons_of_mem _ tw_396)) (fun _ h9 => h9) rfl (by decide +kernel) rfl rfl (Nat.le_of_ble_eq_true rfl) d_Mo_move_68 (fun H locs hP hD hS => ?_)
          have hP : va_P D ecl [(mo, .inr (4, [.ref nb, .ref un, .ref ov, .ref xx, .ref dc, .int (iI (zl)), .int (iI (1)), .long (ma), .int (iI (pw)), .int (iI (zk))])), (nb, .inr (3, [.ref nd, .int (iI (((dl X : Nat) : Int))), .int (iI (pt))])), (nd, .inl (cB, 4200, .inl d))] H := hP
          have hD : va_D A [(mo, .inr (4, [.ref nb, .ref un, .ref ov, .ref xx, .ref dc, .int (iI (zl)), .int (iI (1)), .long (ma), .int (iI (pw)), .int (iI (zk))])), (nb, .inr (3, [.ref nd, .int (iI (((dl X : Nat) : Int))), .int (iI (pt))])), (nd, .inl (cB, 4200, .inl d))] := hD
          refine lv_aload_n hx hb d_Mo_move_71 rfl (lv_at hl 2 rfl) ?_
          refine ed_pc (pc' := 72) rfl ?_
          refine va_get (D := D) (ci := 4) (v := .int (iI (1))) (C := R_Mo) (T := T_Mo) (N := 10) hx hb hts (fun w h => List.mem_cons_of_mem _ (in_Mo w h)) hown hK hP 0 rfl rfl 6 (by decide) (hts _ (List.mem_cons_of_mem _ tw_396)) (fun _ h9 => h9) rfl d_Mo_move_72 ?_
          refine ed_if_le (tgt := 80) hx hb d_Mo_move_75 rfl (by omega) (fun h_15 => ?_) (fun h_15 => ?_)
          · exact absurd h_15 (by omega)
          · skip
            refine ed_pc (pc' := 78) rfl ?_
            refine lv_iconst (v := iI 0) hx hb d_Mo_move_78 rfl ?_
            exact W.iret (v := (iI (0))) hx hb hr (fun t9 ht9 hW9 => ⟨⟨(iI (0)), [(mo, .inr (4, [.ref nb, .ref un, .ref ov, .ref xx, .ref dc, .int (iI (zl)), .int (iI (1)), .long (ma), .int (iI (pw)), .int (iI (zk))])), (nb, .inr (3, [.ref nd, .int (iI (((dl X : Nat) : Int))), .int (iI (pt))])), (nd, .inl (cB, 4200, .inl d))], rfl, ⟨rfl, rfl⟩, by rw [ht9]; exact hP, hD⟩, hS.F ht9⟩) hS.2.2 d_Mo_move_79
        · skip
          refine ed_pc (pc' := 49) rfl ?_
          refine lv_iload_n hx hb d_Mo_move_49 rfl (lv_at hl 0 rfl) ?_
          refine lv_sipush (v := iI (-10000)) hx hb d_Mo_move_50 (by decide +kernel) ?_
          refine ed_icmp_lt (tgt := 63) hx hb d_Mo_move_53 rfl (by omega) (by omega) (fun h_16 => ?_) (fun h_16 => ?_)
          · exact absurd h_16 (by omega)
          · skip
            refine ed_pc (pc' := 56) rfl ?_
            refine lv_iload_n hx hb d_Mo_move_56 rfl (lv_at hl 0 rfl) ?_
            refine ed_pc (pc' := 57) rfl ?_
            refine lv_sipush (v := iI 10000) hx hb d_Mo_move_57 (by decide +kernel) ?_
            refine ed_icmp_le (tgt := 67) hx hb d_Mo_move_60 rfl (by omega) (by omega) (fun h_17 => ?_) (fun h_17 => ?_)
            · skip
              refine ed_pc (pc' := 67) rfl ?_
              exfalso; omega
            · skip
              refine ed_pc (pc' := 63) rfl ?_
              refine lv_iconst (v := iI 1) hx hb d_Mo_move_63 rfl ?_
              refine lv_goto (tgt := 68) hx hb d_Mo_move_64 rfl ?_
              refine va_put (D := D) (ci := 4) (v := .int (iI (1))) (ty := .int) (C := R_Mo) (T := T_Mo) (N := 10) hx hb hts (fun w h => List.mem_cons_of_mem _ (in_Mo w h)) y_Mo t_Mo n_Mo hown hK hP hD hS 0 rfl rfl 6 (by decide) (hts _ (List.mem_cons_of_mem _ tw_396)) (fun _ h9 => h9) rfl (by decide +kernel) rfl rfl (Nat.le_of_ble_eq_true rfl) d_Mo_move_68 (fun H locs hP hD hS => ?_)
              have hP : va_P D ecl [(mo, .inr (4, [.ref nb, .ref un, .ref ov, .ref xx, .ref dc, .int (iI (zl)), .int (iI (1)), .long (ma), .int (iI (pw)), .int (iI (zk))])), (nb, .inr (3, [.ref nd, .int (iI (((dl X : Nat) : Int))), .int (iI (pt))])), (nd, .inl (cB, 4200, .inl d))] H := hP
              have hD : va_D A [(mo, .inr (4, [.ref nb, .ref un, .ref ov, .ref xx, .ref dc, .int (iI (zl)), .int (iI (1)), .long (ma), .int (iI (pw)), .int (iI (zk))])), (nb, .inr (3, [.ref nd, .int (iI (((dl X : Nat) : Int))), .int (iI (pt))])), (nd, .inl (cB, 4200, .inl d))] := hD
              refine lv_aload_n hx hb d_Mo_move_71 rfl (lv_at hl 2 rfl) ?_
              refine va_get (D := D) (ci := 4) (v := .int (iI (1))) (C := R_Mo) (T := T_Mo) (N := 10) hx hb hts (fun w h => List.mem_cons_of_mem _ (in_Mo w h)) hown hK hP 0 rfl rfl 6 (by decide) (hts _ (List.mem_cons_of_mem _ tw_396)) (fun _ h9 => h9) rfl d_Mo_move_72 ?_
              refine ed_if_le (tgt := 80) hx hb d_Mo_move_75 rfl (by omega) (fun h_18 => ?_) (fun h_18 => ?_)
              · exact absurd h_18 (by omega)
              · skip
                refine ed_pc (pc' := 78) rfl ?_
                refine ed_pc (pc' := 78) rfl ?_
                refine lv_iconst (v := iI 0) hx hb d_Mo_move_78 rfl ?_
                exact W.iret (v := (iI (0))) hx hb hr (fun t9 ht9 hW9 => ⟨⟨(iI (0)), [(mo, .inr (4, [.ref nb, .ref un, .ref ov, .ref xx, .ref dc, .int (iI (zl)), .int (iI (1)), .long (ma), .int (iI (pw)), .int (iI (zk))])), (nb, .inr (3, [.ref nd, .int (iI (((dl X : Nat) : Int))), .int (iI (pt))])), (nd, .inl (cB, 4200, .inl d))], rfl, ⟨rfl, rfl⟩, by rw [ht9]; exact hP, hD⟩, hS.F ht9⟩) hS.2.2 d_Mo_move_79
