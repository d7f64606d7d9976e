set_option maxHeartbeats 4000000 in
set_option maxRecDepth 100000 in
theorem c_Mo_thrown (l : Launch) (D : va_G) (cB cI cJ : ClassId) (t5 : Nat) (ad : Nat → Nat) (mo nb un ov xx dc : Nat) (zl th pw zk : Int) (ma : Int64) : c_I l m_Mo_thrown (Cond.code m_Mo_thrown b_Mo_thrown 1 (some .int) :: gw) (rm_ 0 0) (eX t5 ad) D ecl (tyS cB cI cJ) [.ref mo] [(mo, .inr (4, [.ref nb, .ref un, .ref ov, .ref xx, .ref dc, .int (iI (zl)), .int (iI (th)), .long (ma), .int (iI (pw)), .int (iI (zk))]))] (fun r u => r = iI th ∧ u = [(mo, .inr (4, [.ref nb, .ref un, .ref ov, .ref xx, .ref dc, .int (iI (zl)), .int (iI (th)), .long (ma), .int (iI (pw)), .int (iI (zk))]))]) 0 0 := by
  intro sz0
  refine Met.ofW (cc := b_Mo_thrown) (maxL := 1) (ret := (some .int)) (by decide) rfl ?_
  intro p e s m args below meth c s₁ B hml hv
  obtain ⟨rfl, hsz, hP, hK, hD0, hE⟩ := hv
  have hx := B.exec
  have hb := B.bytes
  have hr := B.returns
  have hts := atoms_spec (ws := Cond.code m_Mo_thrown b_Mo_thrown 1 (some .int) :: gw) B.pre
  have hown : s.vm.findClass R_Mo = some m.cls := findClass_of_methodNamed B.named
  have hlocks := B.notSynchronized
  subst hsz
  have hD := hD0.self (sz := s.heap.size)
  generalize hAe : va_A [(mo, .inr (4, [.ref nb, .ref un, .ref ov, .ref xx, .ref dc, .int (iI (zl)), .int (iI (th)), .long (ma), .int (iI (pw)), .int (iI (zk))]))] s.heap.size = A at hD hE ⊢
  have hA : ∀ q : Nat, s.heap.size ≤ q → A q := fun q h => by rw [← hAe]; exact Or.inr h
  have hS : va_S A s.heap s.heap [] := va_S.rf
  have hl := lv_entry ([.ref mo]) (n := 1) (Nat.le_of_ble_eq_true rfl)
  rw [lg_entry_eq]
  generalize (lg_sl ([.ref mo]) ++ List.replicate (1 - (lg_sl ([.ref mo])).length) Slot.unset).toArray = ls at hl ⊢
  have hl : lv_has ls 1 [(0, .ref mo)] := hl
  refine lv_aload_n hx hb d_Mo_thrown_0 rfl (lv_at hl 0 rfl) ?_
  refine va_get (D := D) (ci := 4) (v := .int (iI (th))) (C := R_Mo) (T := T_Mo) (N := 10) hx hb hts (fun w h => List.mem_cons_of_mem _ (in_Mo w h)) hown hK hP 0 rfl rfl 6 (by decide) (hts _ (List.mem_cons_of_mem _ tw_396)) (fun _ h9 => h9) rfl d_Mo_thrown_1 ?_
  exact W.iret (v := (iI (th))) hx hb hr (fun t9 ht9 hW9 => ⟨⟨(iI (th)), [(mo, .inr (4, [.ref nb, .ref un, .ref ov, .ref xx, .ref dc, .int (iI (zl)), .int (iI (th)), .long (ma), .int (iI (pw)), .int (iI (zk))]))], rfl, ⟨rfl, rfl⟩, by rw [ht9]; exact hP, hD⟩, hS.F ht9⟩) hS.2.2 d_Mo_thrown_4
set_option maxHeartbeats 4000000 in
set_option maxRecDepth 100000 in
theorem c_Mo_kept (l : Launch) (D : va_G) (cB cI cJ : ClassId) (t5 : Nat) (ad : Nat → Nat) (mo nb nd un ov xx dc : Nat) (d : Nat → Int32) (pt zl th pw zk : Int) (ma : Int64) (X : Nat) (hg : rw_ok d X) (h41 : dl X ≤ 4100) (hzl : zl = 0 ∨ zl = 1) (hpt : -20000000 ≤ pt ∧ pt ≤ 20000000) : c_I l m_Mo_kept (Cond.code m_Mo_kept b_Mo_kept 1 (some .int) :: gw) (rm_ 2 91) (eX t5 ad) D ecl (tyS cB cI cJ) [.ref mo] [(mo, .inr (4, [.ref nb, .ref un, .ref ov, .ref xx, .ref dc, .int (iI (zl)), .int (iI (th)), .long (ma), .int (iI (pw)), .int (iI (zk))])), (nb, .inr (3, [.ref nd, .int (iI (((dl X : Nat) : Int))), .int (iI (pt))])), (nd, .inl (cB, 4200, .inl d))] (fun r u => r = iI ((dl (gvD X) : Nat) : Int) ∧ nm_ok d (gvD X) ∧ ∃ zl' : Int, ((zl' = 1 ∧ (1200 < dl X ∨ zl = 1)) ∨ (zl' = 0 ∧ ¬ (1200 < dl X ∨ zl = 1))) ∧ u = [(mo, .inr (4, [.ref nb, .ref un, .ref ov, .ref xx, .ref dc, .int (iI (zl')), .int (iI (th)), .long (ma), .int (iI (pw)), .int (iI (zk))])), (nb, .inr (3, [.ref nd, .int (iI (((dl (gvD X) : Nat) : Int))), .int (iI (pt))])), (nd, .inl (cB, 4200, .inl d))]) 0 0 := by
  intro sz0
  refine Met.ofW (cc := b_Mo_kept) (maxL := 1) (ret := (some .int)) (by decide) rfl ?_
  intro p e s m args below meth c s₁ B hml hv
  obtain ⟨rfl, hsz, hP, hK, hD0, hE⟩ := hv
  have hx := B.exec
  have hb := B.bytes
  have hr := B.returns
  have hts := atoms_spec (ws := Cond.code m_Mo_kept b_Mo_kept 1 (some .int) :: gw) B.pre
  have hown : s.vm.findClass R_Mo = some m.cls := findClass_of_methodNamed B.named
  have hlocks := B.notSynchronized
  subst hsz
  have hD := hD0.self (sz := s.heap.size)
  generalize hAe : va_A [(mo, .inr (4, [.ref nb, .ref un, .ref ov, .ref xx, .ref dc, .int (iI (zl)), .int (iI (th)), .long (ma), .int (iI (pw)), .int (iI (zk))])), (nb, .inr (3, [.ref nd, .int (iI (((dl X : Nat) : Int))), .int (iI (pt))])), (nd, .inl (cB, 4200, .inl d))] s.heap.size = A at hD hE ⊢
  have hA : ∀ q : Nat, s.heap.size ≤ q → A q := fun q h => by rw [← hAe]; exact Or.inr h
  have hS : va_S A s.heap s.heap [] := va_S.rf
  have hl := lv_entry ([.ref mo]) (n := 1) (Nat.le_of_ble_eq_true rfl)
  rw [lg_entry_eq]
  generalize (lg_sl ([.ref mo]) ++ List.replicate (1 - (lg_sl ([.ref mo])).length) Slot.unset).toArray = ls at hl ⊢
  have hl : lv_has ls 1 [(0, .ref mo)] := hl
  refine lv_aload_n hx hb d_Mo_kept_0 rfl (lv_at hl 0 rfl) ?_
  refine va_get (D := D) (ci := 4) (v := .ref nb) (C := R_Mo) (T := T_Mo) (N := 10) hx hb hts (fun w h => List.mem_cons_of_mem _ (in_Mo w h)) hown hK hP 0 rfl rfl 0 (by decide) (hts _ (List.mem_cons_of_mem _ tw_390)) (fun _ h9 => h9) rfl d_Mo_kept_1 ?_
  refine va_get (D := D) (ci := 3) (v := .int (iI (((dl X : Nat) : Int)))) (C := R_Ro) (T := T_Ro) (N := 3) hx hb hts (fun w h => List.mem_cons_of_mem _ (in_Ro w h)) hown hK hP 1 rfl rfl 1 (by decide) (hts _ (List.mem_cons_of_mem _ tw_362)) (fun _ h9 => h9) rfl d_Mo_kept_4 ?_
  refine lv_sipush (v := iI 1200) hx hb d_Mo_kept_7 (by decide +kernel) ?_
  refine ed_icmp_le (tgt := 35) hx hb d_Mo_kept_10 rfl (by omega) (by omega) (fun h_1 => ?_) (fun h_1 => ?_)
  · skip
    refine ed_pc (pc' := 35) rfl ?_
    refine lv_aload_n hx hb d_Mo_kept_35 rfl (lv_at hl 0 rfl) ?_
    refine va_get (D := D) (ci := 4) (v := .ref nb) (C := R_Mo) (T := T_Mo) (N := 10) hx hb hts (fun w h => List.mem_cons_of_mem _ (in_Mo w h)) hown hK hP 0 rfl rfl 0 (by decide) (hts _ (List.mem_cons_of_mem _ tw_390)) (fun _ h9 => h9) rfl d_Mo_kept_36 ?_
    refine ed_pc (pc' := 39) rfl ?_
    refine va_get (D := D) (ci := 3) (v := .int (iI (((dl X : Nat) : Int)))) (C := R_Ro) (T := T_Ro) (N := 3) hx hb hts (fun w h => List.mem_cons_of_mem _ (in_Ro w h)) hown hK hP 1 rfl rfl 1 (by decide) (hts _ (List.mem_cons_of_mem _ tw_362)) (fun _ h9 => h9) rfl d_Mo_kept_39 ?_
    have hgs : gvD X = X := by rw [mgv_small (by omega), hg.1]
    exact W.iret (v := (iI (((dl X : Nat) : Int)))) hx hb hr (fun t9 ht9 hW9 => ⟨⟨(iI (((dl X : Nat) : Int))), [(mo, .inr (4, [.ref nb, .ref un, .ref ov, .ref xx, .ref dc, .int (iI (zl)), .int (iI (th)), .long (ma), .int (iI (pw)), .int (iI (zk))])), (nb, .inr (3, [.ref nd, .int (iI (((dl X : Nat) : Int))), .int (iI (pt))])), (nd, .inl (cB, 4200, .inl d))], rfl, ⟨by rw [hgs], by rw [hgs]; exact ⟨by omega, hg⟩, zl, by omega, by rw [hgs]⟩, by rw [ht9]; exact hP, hD⟩, hS.F ht9⟩) hS.2.2 d_Mo_kept_42
  · skip
    refine ed_pc (pc' := 13) rfl ?_
    obtain ⟨hc1, hc2⟩ := gv_cut hg (by omega)
    have hXp : ¬ X / 10 ^ (dl X - 1200) = 0 := fun z => by rw [z, dl_0] at hc2; omega
    refine lv_aload_n hx hb d_Mo_kept_13 rfl (lv_at hl 0 rfl) ?_
    refine va_get (D := D) (ci := 4) (v := .ref nb) (C := R_Mo) (T := T_Mo) (N := 10) hx hb hts (fun w h => List.mem_cons_of_mem _ (in_Mo w h)) hown hK hP 0 rfl rfl 0 (by decide) (hts _ (List.mem_cons_of_mem _ tw_390)) (fun _ h9 => h9) rfl d_Mo_kept_14 ?_
    refine ed_pc (pc' := 17) rfl ?_
    refine lv_sipush (v := iI 1200) hx hb d_Mo_kept_17 (by decide +kernel) ?_
    refine ed_tz (y := ((dl (X / 10 ^ (dl X - 1200)) : Nat) : Int)) (by rw [hc2]; rfl) ?_
    refine va_put (D := D) (ci := 3) (v := .int (iI (((dl (X / 10 ^ (dl X - 1200)) : Nat) : Int)))) (ty := .int) (C := R_Ro) (T := T_Ro) (N := 3) hx hb hts (fun w h => List.mem_cons_of_mem _ (in_Ro w h)) y_Ro t_Ro n_Ro hown hK hP hD hS 1 rfl rfl 1 (by decide) (hts _ (List.mem_cons_of_mem _ tw_362)) (fun _ h9 => h9) rfl (by decide +kernel) rfl rfl (Nat.le_of_ble_eq_true rfl) d_Mo_kept_20 (fun H locs hP hD hS => ?_)
    have hP : va_P D ecl [(mo, .inr (4, [.ref nb, .ref un, .ref ov, .ref xx, .ref dc, .int (iI (zl)), .int (iI (th)), .long (ma), .int (iI (pw)), .int (iI (zk))])), (nb, .inr (3, [.ref nd, .int (iI (((dl (X / 10 ^ (dl X - 1200)) : Nat) : Int))), .int (iI (pt))])), (nd, .inl (cB, 4200, .inl d))] H := hP
    have hD : va_D A [(mo, .inr (4, [.ref nb, .ref un, .ref ov, .ref xx, .ref dc, .int (iI (zl)), .int (iI (th)), .long (ma), .int (iI (pw)), .int (iI (zk))])), (nb, .inr (3, [.ref nd, .int (iI (((dl (X / 10 ^ (dl X - 1200)) : Nat) : Int))), .int (iI (pt))])), (nd, .inl (cB, 4200, .inl d))] := hD
    refine lv_aload_n hx hb d_Mo_kept_23 rfl (lv_at hl 0 rfl) ?_
    refine lv_iconst (v := iI 1) hx hb d_Mo_kept_24 rfl ?_
    refine va_put (D := D) (ci := 4) (v := .int (iI (1))) (ty := .boolean) (C := R_Mo) (T := T_Mo) (N := 10) hx hb hts (fun w h => List.mem_cons_of_mem _ (in_Mo w h)) y_Mo t_Mo n_Mo hown hK hP hD hS 0 rfl rfl 5 (by decide) (hts _ (List.mem_cons_of_mem _ tw_395)) (fun _ h9 => h9) rfl (by decide +kernel) (by decide +kernel) (by decide +kernel) (Nat.le_of_ble_eq_true rfl) d_Mo_kept_25 (fun H locs hP hD hS => ?_)
    have hP : va_P D ecl [(mo, .inr (4, [.ref nb, .ref un, .ref ov, .ref xx, .ref dc, .int (iI (1)), .int (iI (th)), .long (ma), .int (iI (pw)), .int (iI (zk))])), (nb, .inr (3, [.ref nd, .int (iI (((dl (X / 10 ^ (dl X - 1200)) : Nat) : Int))), .int (iI (pt))])), (nd, .inl (cB, 4200, .inl d))] H := hP
    have hD : va_D A [(mo, .inr (4, [.ref nb, .ref un, .ref ov, .ref xx, .ref dc, .int (iI (1)), .int (iI (th)), .long (ma), .int (iI (pw)), .int (iI (zk))])), (nb, .inr (3, [.ref nd, .int (iI (((dl (X / 10 ^ (dl X - 1200)) : Nat) : Int))), .int (iI (pt))])), (nd, .inl (cB, 4200, .inl d))] := hD
    refine lv_aload_n hx hb d_Mo_kept_28 rfl (lv_at hl 0 rfl) ?_
    refine va_get (D := D) (ci := 4) (v := .ref nb) (C := R_Mo) (T := T_Mo) (N := 10) hx hb hts (fun w h => List.mem_cons_of_mem _ (in_Mo w h)) hown hK hP 0 rfl rfl 0 (by decide) (hts _ (List.mem_cons_of_mem _ tw_390)) (fun _ h9 => h9) rfl d_Mo_kept_29 ?_
    refine c_fv (wc := [(nb, .inr (3, [.ref nd, .int (iI (((dl (X / 10 ^ (dl X - 1200)) : Nat) : Int))), .int (iI (pt))])), (nd, .inl (cB, 4200, .inl d))]) (wr := [(mo, .inr (4, [.ref nb, .ref un, .ref ov, .ref xx, .ref dc, .int (iI (1)), .int (iI (th)), .long (ma), .int (iI (pw)), .int (iI (zk))]))]) (va_runV (C := "ExactDigitsModel$Row") (As := []) (rest := []) ⟨hx, hb, hml, hown, hts⟩ (c_Ro_trim l D cB cI cJ t5 ad nb nd d pt (X / 10 ^ (dl X - 1200)) (by omega) (by rw [hc2]; exact hc1) H.size) (cwV 0 hts (gV tw_480 tw_442 tw_443 tw_4 tw_444) rfl rfl rfl (by decide +kernel) ⟨Nat.le_of_ble_eq_true rfl, Nat.le_of_ble_eq_true rfl⟩) ⟨c_blind (eX_X t5 ad), va_recv (ci := 3) (q0 := 1) hK hP rfl rfl, fun U hU hW => c_pre (wc := [(nb, .inr (3, [.ref nd, .int (iI (((dl (X / 10 ^ (dl X - 1200)) : Nat) : Int))), .int (iI (pt))])), (nd, .inl (cB, 4200, .inl d))]) (eX_X t5 ad) hE hK hP hD hS hA [1, 2] rfl (by decide) U hU hW⟩ rfl rfl hl.1 rfl (lv_room (Nat.le_of_ble_eq_true rfl)) d_Mo_kept_32 ⟨Nat.le_of_ble_eq_true rfl, Nat.le_of_ble_eq_true rfl⟩) hP hD hS hA [1, 2] [0] rfl rfl (by decide) (by decide) (fun u H locs hp hP hD hS => ?_)
    obtain ⟨hdz, rfl⟩ := hp
    have hP : va_P D ecl [(mo, .inr (4, [.ref nb, .ref un, .ref ov, .ref xx, .ref dc, .int (iI (1)), .int (iI (th)), .long (ma), .int (iI (pw)), .int (iI (zk))])), (nb, .inr (3, [.ref nd, .int (iI (((dl (gvD X) : Nat) : Int))), .int (iI (if X / 10 ^ (dl X - 1200) = 0 then 0 else pt))])), (nd, .inl (cB, 4200, .inl d))] H := hP
    have hD : va_D A [(mo, .inr (4, [.ref nb, .ref un, .ref ov, .ref xx, .ref dc, .int (iI (1)), .int (iI (th)), .long (ma), .int (iI (pw)), .int (iI (zk))])), (nb, .inr (3, [.ref nd, .int (iI (((dl (gvD X) : Nat) : Int))), .int (iI (if X / 10 ^ (dl X - 1200) = 0 then 0 else pt))])), (nd, .inl (cB, 4200, .inl d))] := hD
    rw [if_neg hXp] at hP hD
    have hP : va_P D ecl [(mo, .inr (4, [.ref nb, .ref un, .ref ov, .ref xx, .ref dc, .int (iI (1)), .int (iI (th)), .long (ma), .int (iI (pw)), .int (iI (zk))])), (nb, .inr (3, [.ref nd, .int (iI (((dl (gvD X) : Nat) : Int))), .int (iI (pt))])), (nd, .inl (cB, 4200, .inl d))] H := hP
    have hD : va_D A [(mo, .inr (4, [.ref nb, .ref un, .ref ov, .ref xx, .ref dc, .int (iI (1)), .int (iI (th)), .long (ma), .int (iI (pw)), .int (iI (zk))])), (nb, .inr (3, [.ref nd, .int (iI (((dl (gvD X) : Nat) : Int))), .int (iI (pt))])), (nd, .inl (cB, 4200, .inl d))] := hD
    refine ed_pc (pc' := 35) rfl ?_
    refine lv_aload_n hx hb d_Mo_kept_35 rfl (lv_at hl 0 rfl) ?_
    refine va_get (D := D) (ci := 4) (v := .ref nb) (C := R_Mo) (T := T_Mo) (N := 10) hx hb hts (fun w h => List.mem_cons_of_mem _ (in_Mo w h)) hown hK hP 0 rfl rfl 0 (by decide) (hts _ (List.mem_cons_of_mem _ tw_390)) (fun _ h9 => h9) rfl d_Mo_kept_36 ?_
    refine va_get (D := D) (ci := 3) (v := .int (iI (((dl (gvD X) : Nat) : Int)))) (C := R_Ro) (T := T_Ro) (N := 3) hx hb hts (fun w h => List.mem_cons_of_mem _ (in_Ro w h)) hown hK hP 1 rfl rfl 1 (by decide) (hts _ (List.mem_cons_of_mem _ tw_362)) (fun _ h9 => h9) rfl d_Mo_kept_39 ?_
    exact W.iret (v := (iI (((dl (gvD X) : Nat) : Int)))) hx hb hr (fun t9 ht9 hW9 => ⟨⟨(iI (((dl (gvD X) : Nat) : Int))), [(mo, .inr (4, [.ref nb, .ref un, .ref ov, .ref xx, .ref dc, .int (iI (1)), .int (iI (th)), .long (ma), .int (iI (pw)), .int (iI (zk))])), (nb, .inr (3, [.ref nd, .int (iI (((dl (gvD X) : Nat) : Int))), .int (iI (pt))])), (nd, .inl (cB, 4200, .inl d))], rfl, ⟨rfl, ⟨gv_le _, rz_rz _, hdz⟩, 1, Or.inl ⟨rfl, Or.inl (by omega)⟩, rfl⟩, by rw [ht9]; exact hP, hD⟩, hS.F ht9⟩) hS.2.2 d_Mo_kept_42
set_option maxHeartbeats 4000000 in
set_option maxRecDepth 100000 in
theorem c_Mo_whole (l : Launch) (D : va_G) (cB cI cJ : ClassId) (t5 : Nat) (ad : Nat → Nat) (mo nb nd un ov xx dc : Nat) (d : Nat → Int32) (zn pt zl th pw zk : Int) (ma : Int64) (V : Nat) (hV : V < 2 ^ 64) : c_I l m_Mo_whole (Cond.code m_Mo_whole b_Mo_whole 3 (some .int) :: gw) (rm_ 3 117) (eX t5 ad) D ecl (tyS cB cI cJ) [.ref mo, .long (lN V)] [(mo, .inr (4, [.ref nb, .ref un, .ref ov, .ref xx, .ref dc, .int (iI (zl)), .int (iI (th)), .long (ma), .int (iI (pw)), .int (iI (zk))])), (nb, .inr (3, [.ref nd, .int (iI (zn)), .int (iI (pt))])), (nd, .inl (cB, 4200, .inl d))] (fun r u => r = iI ((dl (gvD V) : Nat) : Int) ∧ ∃ d' : Nat → Int32, nm_ok d' (gvD V) ∧ u = [(mo, .inr (4, [.ref nb, .ref un, .ref ov, .ref xx, .ref dc, .int (iI (hdb V (((dl V : Nat) : Int) - 1200))), .int (iI (0)), .long (ma), .int (iI (pw)), .int (iI (zk))])), (nb, .inr (3, [.ref nd, .int (iI (((dl (gvD V) : Nat) : Int))), .int (iI (if V = 0 then 0 else ((dl V : Nat) : Int) + 0))])), (nd, .inl (cB, 4200, .inl d'))]) 0 0 := by
  intro sz0
  refine Met.ofW (cc := b_Mo_whole) (maxL := 3) (ret := (some .int)) (by decide) rfl ?_
  intro p e s m args below meth c s₁ B hml hv
  obtain ⟨rfl, hsz, hP, hK, hD0, hE⟩ := hv
  have hx := B.exec
  have hb := B.bytes
  have hr := B.returns
  have hts := atoms_spec (ws := Cond.code m_Mo_whole b_Mo_whole 3 (some .int) :: gw) B.pre
  have hown : s.vm.findClass R_Mo = some m.cls := findClass_of_methodNamed B.named
  have hlocks := B.notSynchronized
  subst hsz
  have hD := hD0.self (sz := s.heap.size)
  generalize hAe : va_A [(mo, .inr (4, [.ref nb, .ref un, .ref ov, .ref xx, .ref dc, .int (iI (zl)), .int (iI (th)), .long (ma), .int (iI (pw)), .int (iI (zk))])), (nb, .inr (3, [.ref nd, .int (iI (zn)), .int (iI (pt))])), (nd, .inl (cB, 4200, .inl d))] s.heap.size = A at hD hE ⊢
  have hA : ∀ q : Nat, s.heap.size ≤ q → A q := fun q h => by rw [← hAe]; exact Or.inr h
  have hS : va_S A s.heap s.heap [] := va_S.rf
  have hl := lv_entry ([.ref mo, .long (lN V)]) (n := 3) (Nat.le_of_ble_eq_true rfl)
  rw [lg_entry_eq]
  generalize (lg_sl ([.ref mo, .long (lN V)]) ++ List.replicate (3 - (lg_sl ([.ref mo, .long (lN V)])).length) Slot.unset).toArray = ls at hl ⊢
  have hl : lv_has ls 3 [(0, .ref mo), (1, .long (lN V))] := hl
  have hdV : dl V ≤ 20 := dl_bound (show V < 10 ^ 20 by omega)
  have hgv : gvD V = rz V := mgv_small (by omega)
  have hhd := mhdb_small (V := V) (by omega)
  refine lv_aload_n hx hb d_Mo_whole_0 rfl (lv_at hl 0 rfl) ?_
  refine lv_iconst (v := iI 0) hx hb d_Mo_whole_1 rfl ?_
  refine va_put (D := D) (ci := 4) (v := .int (iI (0))) (ty := .int) (C := R_Mo) (T := T_Mo) (N := 10) hx hb hts (fun w h => List.mem_cons_of_mem _ (in_Mo w h)) y_Mo t_Mo n_Mo hown hK hP hD hS 0 rfl rfl 6 (by decide) (hts _ (List.mem_cons_of_mem _ tw_396)) (fun _ h9 => h9) rfl (by decide +kernel) rfl rfl (Nat.le_of_ble_eq_true rfl) d_Mo_whole_2 (fun H locs hP hD hS => ?_)
  have hP : va_P D ecl [(mo, .inr (4, [.ref nb, .ref un, .ref ov, .ref xx, .ref dc, .int (iI (zl)), .int (iI (0)), .long (ma), .int (iI (pw)), .int (iI (zk))])), (nb, .inr (3, [.ref nd, .int (iI (zn)), .int (iI (pt))])), (nd, .inl (cB, 4200, .inl d))] H := hP
  have hD : va_D A [(mo, .inr (4, [.ref nb, .ref un, .ref ov, .ref xx, .ref dc, .int (iI (zl)), .int (iI (0)), .long (ma), .int (iI (pw)), .int (iI (zk))])), (nb, .inr (3, [.ref nd, .int (iI (zn)), .int (iI (pt))])), (nd, .inl (cB, 4200, .inl d))] := hD
  refine lv_aload_n hx hb d_Mo_whole_5 rfl (lv_at hl 0 rfl) ?_
  refine va_get (D := D) (ci := 4) (v := .ref nb) (C := R_Mo) (T := T_Mo) (N := 10) hx hb hts (fun w h => List.mem_cons_of_mem _ (in_Mo w h)) hown hK hP 0 rfl rfl 0 (by decide) (hts _ (List.mem_cons_of_mem _ tw_390)) (fun _ h9 => h9) rfl d_Mo_whole_6 ?_
  refine lv_lload_n hx hb d_Mo_whole_9 rfl (lv_at hl 1 rfl) ?_
  refine c_fv (wc := [(nb, .inr (3, [.ref nd, .int (iI (zn)), .int (iI (pt))])), (nd, .inl (cB, 4200, .inl d))]) (wr := [(mo, .inr (4, [.ref nb, .ref un, .ref ov, .ref xx, .ref dc, .int (iI (zl)), .int (iI (0)), .long (ma), .int (iI (pw)), .int (iI (zk))]))]) (va_runV (C := "ExactDigitsModel$Row") (As := [.long (lN V)]) (rest := []) ⟨hx, hb, hml, hown, hts⟩ (c_Ro_set l D cB cI cJ t5 ad nb nd d zn pt V hV H.size) (cwV 1 hts (gV tw_429 tw_430 tw_431 tw_4 tw_432) rfl rfl rfl (by decide +kernel) ⟨Nat.le_of_ble_eq_true rfl, Nat.le_of_ble_eq_true rfl⟩) ⟨c_blind (eX_X t5 ad), va_recv (ci := 3) (q0 := 1) hK hP rfl rfl, fun U hU hW => c_pre (wc := [(nb, .inr (3, [.ref nd, .int (iI (zn)), .int (iI (pt))])), (nd, .inl (cB, 4200, .inl d))]) (eX_X t5 ad) hE hK hP hD hS hA [1, 2] rfl (by decide) U hU hW⟩ rfl rfl hl.1 rfl (lv_room (Nat.le_of_ble_eq_true rfl)) d_Mo_whole_10 ⟨Nat.le_of_ble_eq_true rfl, Nat.le_of_ble_eq_true rfl⟩) hP hD hS hA [1, 2] [0] rfl rfl (by decide) (by decide) (fun u H locs hp hP hD hS => ?_)
  obtain ⟨d3, hd3, rfl⟩ := hp
  have hP : va_P D ecl [(mo, .inr (4, [.ref nb, .ref un, .ref ov, .ref xx, .ref dc, .int (iI (zl)), .int (iI (0)), .long (ma), .int (iI (pw)), .int (iI (zk))])), (nb, .inr (3, [.ref nd, .int (iI (((dl (rz V) : Nat) : Int))), .int (iI (if V = 0 then 0 else ((dl V : Nat) : Int)))])), (nd, .inl (cB, 4200, .inl d3))] H := hP
  have hD : va_D A [(mo, .inr (4, [.ref nb, .ref un, .ref ov, .ref xx, .ref dc, .int (iI (zl)), .int (iI (0)), .long (ma), .int (iI (pw)), .int (iI (zk))])), (nb, .inr (3, [.ref nd, .int (iI (((dl (rz V) : Nat) : Int))), .int (iI (if V = 0 then 0 else ((dl V : Nat) : Int)))])), (nd, .inl (cB, 4200, .inl d3))] := hD
  refine ed_pc (pc' := 13) rfl ?_
  refine lv_aload_n hx hb d_Mo_whole_13 rfl (lv_at hl 0 rfl) ?_
  refine lv_iconst (v := iI 0) hx hb d_Mo_whole_14 rfl ?_
  refine va_put (D := D) (ci := 4) (v := .int (iI (0))) (ty := .boolean) (C := R_Mo) (T := T_Mo) (N := 10) hx hb hts (fun w h => List.mem_cons_of_mem _ (in_Mo w h)) y_Mo t_Mo n_Mo hown hK hP hD hS 0 rfl rfl 5 (by decide) (hts _ (List.mem_cons_of_mem _ tw_395)) (fun _ h9 => h9) rfl (by decide +kernel) (by decide +kernel) (by decide +kernel) (Nat.le_of_ble_eq_true rfl) d_Mo_whole_15 (fun H locs hP hD hS => ?_)
  have hP : va_P D ecl [(mo, .inr (4, [.ref nb, .ref un, .ref ov, .ref xx, .ref dc, .int (iI (0)), .int (iI (0)), .long (ma), .int (iI (pw)), .int (iI (zk))])), (nb, .inr (3, [.ref nd, .int (iI (((dl (rz V) : Nat) : Int))), .int (iI (if V = 0 then 0 else ((dl V : Nat) : Int)))])), (nd, .inl (cB, 4200, .inl d3))] H := hP
  have hD : va_D A [(mo, .inr (4, [.ref nb, .ref un, .ref ov, .ref xx, .ref dc, .int (iI (0)), .int (iI (0)), .long (ma), .int (iI (pw)), .int (iI (zk))])), (nb, .inr (3, [.ref nd, .int (iI (((dl (rz V) : Nat) : Int))), .int (iI (if V = 0 then 0 else ((dl V : Nat) : Int)))])), (nd, .inl (cB, 4200, .inl d3))] := hD
  refine lv_aload_n hx hb d_Mo_whole_18 rfl (lv_at hl 0 rfl) ?_
  refine va_get (D := D) (ci := 4) (v := .ref nb) (C := R_Mo) (T := T_Mo) (N := 10) hx hb hts (fun w h => List.mem_cons_of_mem _ (in_Mo w h)) hown hK hP 0 rfl rfl 0 (by decide) (hts _ (List.mem_cons_of_mem _ tw_390)) (fun _ h9 => h9) rfl d_Mo_whole_19 ?_
  refine va_get (D := D) (ci := 3) (v := .int (iI (((dl (rz V) : Nat) : Int)))) (C := R_Ro) (T := T_Ro) (N := 3) hx hb hts (fun w h => List.mem_cons_of_mem _ (in_Ro w h)) hown hK hP 1 rfl rfl 1 (by decide) (hts _ (List.mem_cons_of_mem _ tw_362)) (fun _ h9 => h9) rfl d_Mo_whole_22 ?_
  exact W.iret (v := (iI (((dl (rz V) : Nat) : Int)))) hx hb hr (fun t9 ht9 hW9 => ⟨⟨(iI (((dl (rz V) : Nat) : Int))), [(mo, .inr (4, [.ref nb, .ref un, .ref ov, .ref xx, .ref dc, .int (iI (0)), .int (iI (0)), .long (ma), .int (iI (pw)), .int (iI (zk))])), (nb, .inr (3, [.ref nd, .int (iI (((dl (rz V) : Nat) : Int))), .int (iI (if V = 0 then 0 else ((dl V : Nat) : Int)))])), (nd, .inl (cB, 4200, .inl d3))], rfl, ⟨by rw [hgv], d3, ⟨gv_le _, by rw [hgv]; exact hd3⟩, by rw [hgv, hhd, Int.add_zero]⟩, by rw [ht9]; exact hP, hD⟩, hS.F ht9⟩) hS.2.2 d_Mo_whole_25
