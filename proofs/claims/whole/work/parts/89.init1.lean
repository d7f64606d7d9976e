set_option maxHeartbeats 4000000 in
set_option maxRecDepth 100000 in
theorem c_Na_init (l : Launch) (D : va_G) (cB cI cJ : ClassId) (t5 : Nat) (ad : Nat → Nat) (q : Nat) : c_V l m_Na_init (Cond.code m_Na_init b_Na_init 1 none :: gw) (rmk_ 1 1 306 20) (eX t5 ad) D ecl (tyS cB cI cJ) [.ref q] [(q, .inr (0, [.null, .int (iI (0))]))] (fun u => ∃ rd : Nat, u = [(q, .inr (0, [.ref rd, .int (iI (0))])), (rd, .inl (cI, 306, .inl ((fun _ => iI 0))))]) 1 306 := by
  intro sz0
  refine Met.ofW (cc := b_Na_init) (maxL := 1) (ret := none) (by decide) rfl ?_
  intro p e s m args below meth c s₁ B hml hv
  obtain ⟨rfl, hsz, hP, hK, hD0, hE⟩ := hv
  have hx := B.exec
  have hb := B.bytes
  have hr := B.returns
  have hts := atoms_spec (ws := Cond.code m_Na_init b_Na_init 1 none :: gw) B.pre
  have hown : s.vm.findClass R_Na = some m.cls := findClass_of_methodNamed B.named
  have hlocks := B.notSynchronized
  have hin : meth.name = "<init>" := (name_of_methodNamed B.named B.method).1
  subst hsz
  have hD := hD0.self (sz := s.heap.size)
  generalize hAe : va_A [(q, .inr (0, [.null, .int (iI (0))]))] s.heap.size = A at hD hE ⊢
  have hA : ∀ q : Nat, s.heap.size ≤ q → A q := fun q h => by rw [← hAe]; exact Or.inr h
  have hS : va_S A s.heap s.heap [] := va_S.rf
  have hl := lv_entry ([.ref q]) (n := 1) (Nat.le_of_ble_eq_true rfl)
  rw [lg_entry_eq]
  generalize (lg_sl ([.ref q]) ++ List.replicate (1 - (lg_sl ([.ref q])).length) Slot.unset).toArray = ls at hl ⊢
  have hl : lv_has ls 1 [(0, .ref q)] := hl
  refine lv_aload_n hx hb d_Na_init_0 rfl (lv_at hl 0 rfl) ?_
  refine ed_obj hx hb hown (hts _ (List.mem_cons_of_mem _ tw_30)) (hts _ (List.mem_cons_of_mem _ tw_23)) (hts _ (List.mem_cons_of_mem _ tw_24)) (hl.1.trans hml.symm) d_Na_init_1 (Nat.le_of_ble_eq_true rfl) (Nat.le_of_ble_eq_true rfl) ?_
  refine lv_aload_n hx hb d_Na_init_4 rfl (lv_at hl 0 rfl) ?_
  refine lv_sipush (v := iI 306) hx hb d_Na_init_5 (by decide +kernel) ?_
  refine ed_newa (atype := .int) (ty := .int) (a0 := (306, .inl (fun _ => iI 0))) (N' := 306) hx hb (hts _ (List.mem_cons_of_mem _ tw_39)) rfl hK hP hD hS hA (nz_i 306) (by decide +kernel) (by decide +kernel) (by decide +kernel) (by decide +kernel) (by decide +kernel) 1 rfl ra_i d_Na_init_8 (fun rd H hP hD hS => ?_)
  have hP : va_P D ecl [(q, .inr (0, [.null, .int (iI (0))])), (rd, .inl (cI, 306, .inl ((fun _ => iI 0))))] H := hP
  have hD : va_D A [(q, .inr (0, [.null, .int (iI (0))])), (rd, .inl (cI, 306, .inl ((fun _ => iI 0))))] := hD
  refine va_putF (D := D) (ci := 0) (v := .ref rd) (ty := (.array .int)) (C := R_Na) (T := T_Na) (N := 2) hx hb hts (fun w h => List.mem_cons_of_mem _ (in_Na w h)) y_Na t_Na n_Na hown hK hP hD hS 0 rfl rfl 0 (by decide) (hts _ (List.mem_cons_of_mem _ tw_31)) (fun _ h9 => h9) rfl hin rfl (by decide +kernel) rfl rfl (Nat.le_of_ble_eq_true rfl) d_Na_init_10 (fun H locs hP hD hS => ?_)
  have hP : va_P D ecl [(q, .inr (0, [.ref rd, .int (iI (0))])), (rd, .inl (cI, 306, .inl ((fun _ => iI 0))))] H := hP
  have hD : va_D A [(q, .inr (0, [.ref rd, .int (iI (0))])), (rd, .inl (cI, 306, .inl ((fun _ => iI 0))))] := hD
  refine lv_aload_n hx hb d_Na_init_13 rfl (lv_at hl 0 rfl) ?_
  refine lv_iconst (v := iI 0) hx hb d_Na_init_14 rfl ?_
  refine va_put (D := D) (ci := 0) (v := .int (iI (0))) (ty := .int) (C := R_Na) (T := T_Na) (N := 2) hx hb hts (fun w h => List.mem_cons_of_mem _ (in_Na w h)) y_Na t_Na n_Na hown hK hP hD hS 0 rfl rfl 1 (by decide) (hts _ (List.mem_cons_of_mem _ tw_32)) (fun _ h9 => h9) rfl (by decide +kernel) rfl rfl (Nat.le_of_ble_eq_true rfl) d_Na_init_15 (fun H locs hP hD hS => ?_)
  have hP : va_P D ecl [(q, .inr (0, [.ref rd, .int (iI (0))])), (rd, .inl (cI, 306, .inl ((fun _ => iI 0))))] H := hP
  have hD : va_D A [(q, .inr (0, [.ref rd, .int (iI (0))])), (rd, .inl (cI, 306, .inl ((fun _ => iI 0))))] := hD
  exact W.vret hx hb hr (fun t9 ht9 hW9 => ⟨⟨[(q, .inr (0, [.ref rd, .int (iI (0))])), (rd, .inl (cI, 306, .inl ((fun _ => iI 0))))], rfl, ⟨rd, rfl⟩, by rw [ht9]; exact hP, hD⟩, hS.F ht9⟩) hS.2.2 d_Na_init_18
set_option maxHeartbeats 4000000 in
set_option maxRecDepth 100000 in
theorem c_Ro_init (l : Launch) (D : va_G) (cB cI cJ : ClassId) (t5 : Nat) (ad : Nat → Nat) (r : Nat) : c_V l m_Ro_init (Cond.code m_Ro_init b_Ro_init 1 none :: gw) (rmk_ 1 1 4200 20) (eX t5 ad) D ecl (tyS cB cI cJ) [.ref r] [(r, .inr (3, [.null, .int (iI (0)), .int (iI (0))]))] (fun u => ∃ rd : Nat, u = [(r, .inr (3, [.ref rd, .int (iI (0)), .int (iI (0))])), (rd, .inl (cB, 4200, .inl ((fun _ => iI 0))))]) 1 4200 := by
  intro sz0
  refine Met.ofW (cc := b_Ro_init) (maxL := 1) (ret := none) (by decide) rfl ?_
  intro p e s m args below meth c s₁ B hml hv
  obtain ⟨rfl, hsz, hP, hK, hD0, hE⟩ := hv
  have hx := B.exec
  have hb := B.bytes
  have hr := B.returns
  have hts := atoms_spec (ws := Cond.code m_Ro_init b_Ro_init 1 none :: gw) B.pre
  have hown : s.vm.findClass R_Ro = some m.cls := findClass_of_methodNamed B.named
  have hlocks := B.notSynchronized
  have hin : meth.name = "<init>" := (name_of_methodNamed B.named B.method).1
  subst hsz
  have hD := hD0.self (sz := s.heap.size)
  generalize hAe : va_A [(r, .inr (3, [.null, .int (iI (0)), .int (iI (0))]))] s.heap.size = A at hD hE ⊢
  have hA : ∀ q : Nat, s.heap.size ≤ q → A q := fun q h => by rw [← hAe]; exact Or.inr h
  have hS : va_S A s.heap s.heap [] := va_S.rf
  have hl := lv_entry ([.ref r]) (n := 1) (Nat.le_of_ble_eq_true rfl)
  rw [lg_entry_eq]
  generalize (lg_sl ([.ref r]) ++ List.replicate (1 - (lg_sl ([.ref r])).length) Slot.unset).toArray = ls at hl ⊢
  have hl : lv_has ls 1 [(0, .ref r)] := hl
  refine lv_aload_n hx hb d_Ro_init_0 rfl (lv_at hl 0 rfl) ?_
  refine ed_obj hx hb hown (hts _ (List.mem_cons_of_mem _ tw_358)) (hts _ (List.mem_cons_of_mem _ tw_23)) (hts _ (List.mem_cons_of_mem _ tw_24)) (hl.1.trans hml.symm) d_Ro_init_1 (Nat.le_of_ble_eq_true rfl) (Nat.le_of_ble_eq_true rfl) ?_
  refine lv_aload_n hx hb d_Ro_init_4 rfl (lv_at hl 0 rfl) ?_
  refine lv_sipush (v := iI 4200) hx hb d_Ro_init_5 (by decide +kernel) ?_
  refine ed_newa (atype := .byte) (ty := .byte) (a0 := (4200, .inl (fun _ => iI 0))) (N' := 4200) hx hb (hts _ (List.mem_cons_of_mem _ tw_38)) rfl hK hP hD hS hA (nz_b 4200) (by decide +kernel) (by decide +kernel) (by decide +kernel) (by decide +kernel) (by decide +kernel) 0 rfl ra_b d_Ro_init_8 (fun rd H hP hD hS => ?_)
  have hP : va_P D ecl [(r, .inr (3, [.null, .int (iI (0)), .int (iI (0))])), (rd, .inl (cB, 4200, .inl ((fun _ => iI 0))))] H := hP
  have hD : va_D A [(r, .inr (3, [.null, .int (iI (0)), .int (iI (0))])), (rd, .inl (cB, 4200, .inl ((fun _ => iI 0))))] := hD
  refine va_putF (D := D) (ci := 3) (v := .ref rd) (ty := (.array .byte)) (C := R_Ro) (T := T_Ro) (N := 3) hx hb hts (fun w h => List.mem_cons_of_mem _ (in_Ro w h)) y_Ro t_Ro n_Ro hown hK hP hD hS 0 rfl rfl 0 (by decide) (hts _ (List.mem_cons_of_mem _ tw_359)) (fun _ h9 => h9) rfl hin rfl (by decide +kernel) rfl rfl (Nat.le_of_ble_eq_true rfl) d_Ro_init_10 (fun H locs hP hD hS => ?_)
  have hP : va_P D ecl [(r, .inr (3, [.ref rd, .int (iI (0)), .int (iI (0))])), (rd, .inl (cB, 4200, .inl ((fun _ => iI 0))))] H := hP
  have hD : va_D A [(r, .inr (3, [.ref rd, .int (iI (0)), .int (iI (0))])), (rd, .inl (cB, 4200, .inl ((fun _ => iI 0))))] := hD
  exact W.vret hx hb hr (fun t9 ht9 hW9 => ⟨⟨[(r, .inr (3, [.ref rd, .int (iI (0)), .int (iI (0))])), (rd, .inl (cB, 4200, .inl ((fun _ => iI 0))))], rfl, ⟨rd, rfl⟩, by rw [ht9]; exact hP, hD⟩, hS.F ht9⟩) hS.2.2 d_Ro_init_13
set_option maxHeartbeats 4000000 in
set_option maxRecDepth 100000 in
theorem c_De_init (l : Launch) (D : va_G) (cB cI cJ : ClassId) (t5 : Nat) (ad : Nat → Nat) (dc : Nat) : c_V l m_De_init (Cond.code m_De_init b_De_init 1 none :: gw) (rmk_ 1 1 465 20) (eX t5 ad) D ecl (tyS cB cI cJ) [.ref dc] [(dc, .inr (2, [.null, .int (iI (0)), .int (iI (0))]))] (fun u => ∃ rd : Nat, u = [(dc, .inr (2, [.ref rd, .int (iI (45)), .int (iI (45))])), (rd, .inl (cI, 465, .inl ((fun _ => iI 0))))]) 1 465 := by
  intro sz0
  refine Met.ofW (cc := b_De_init) (maxL := 1) (ret := none) (by decide) rfl ?_
  intro p e s m args below meth c s₁ B hml hv
  obtain ⟨rfl, hsz, hP, hK, hD0, hE⟩ := hv
  have hx := B.exec
  have hb := B.bytes
  have hr := B.returns
  have hts := atoms_spec (ws := Cond.code m_De_init b_De_init 1 none :: gw) B.pre
  have hown : s.vm.findClass R_De = some m.cls := findClass_of_methodNamed B.named
  have hlocks := B.notSynchronized
  have hin : meth.name = "<init>" := (name_of_methodNamed B.named B.method).1
  subst hsz
  have hD := hD0.self (sz := s.heap.size)
  generalize hAe : va_A [(dc, .inr (2, [.null, .int (iI (0)), .int (iI (0))]))] s.heap.size = A at hD hE ⊢
  have hA : ∀ q : Nat, s.heap.size ≤ q → A q := fun q h => by rw [← hAe]; exact Or.inr h
  have hS : va_S A s.heap s.heap [] := va_S.rf
  have hl := lv_entry ([.ref dc]) (n := 1) (Nat.le_of_ble_eq_true rfl)
  rw [lg_entry_eq]
  generalize (lg_sl ([.ref dc]) ++ List.replicate (1 - (lg_sl ([.ref dc])).length) Slot.unset).toArray = ls at hl ⊢
  have hl : lv_has ls 1 [(0, .ref dc)] := hl
  refine lv_aload_n hx hb d_De_init_0 rfl (lv_at hl 0 rfl) ?_
  refine ed_obj hx hb hown (hts _ (List.mem_cons_of_mem _ tw_377)) (hts _ (List.mem_cons_of_mem _ tw_23)) (hts _ (List.mem_cons_of_mem _ tw_24)) (hl.1.trans hml.symm) d_De_init_1 (Nat.le_of_ble_eq_true rfl) (Nat.le_of_ble_eq_true rfl) ?_
  refine lv_aload_n hx hb d_De_init_4 rfl (lv_at hl 0 rfl) ?_
  refine lv_sipush (v := iI 465) hx hb d_De_init_5 (by decide +kernel) ?_
  refine ed_newa (atype := .int) (ty := .int) (a0 := (465, .inl (fun _ => iI 0))) (N' := 465) hx hb (hts _ (List.mem_cons_of_mem _ tw_39)) rfl hK hP hD hS hA (nz_i 465) (by decide +kernel) (by decide +kernel) (by decide +kernel) (by decide +kernel) (by decide +kernel) 1 rfl ra_i d_De_init_8 (fun rd H hP hD hS => ?_)
  have hP : va_P D ecl [(dc, .inr (2, [.null, .int (iI (0)), .int (iI (0))])), (rd, .inl (cI, 465, .inl ((fun _ => iI 0))))] H := hP
  have hD : va_D A [(dc, .inr (2, [.null, .int (iI (0)), .int (iI (0))])), (rd, .inl (cI, 465, .inl ((fun _ => iI 0))))] := hD
  refine va_putF (D := D) (ci := 2) (v := .ref rd) (ty := (.array .int)) (C := R_De) (T := T_De) (N := 3) hx hb hts (fun w h => List.mem_cons_of_mem _ (in_De w h)) y_De t_De n_De hown hK hP hD hS 0 rfl rfl 0 (by decide) (hts _ (List.mem_cons_of_mem _ tw_378)) (fun _ h9 => h9) rfl hin rfl (by decide +kernel) rfl rfl (Nat.le_of_ble_eq_true rfl) d_De_init_10 (fun H locs hP hD hS => ?_)
  have hP : va_P D ecl [(dc, .inr (2, [.ref rd, .int (iI (0)), .int (iI (0))])), (rd, .inl (cI, 465, .inl ((fun _ => iI 0))))] H := hP
  have hD : va_D A [(dc, .inr (2, [.ref rd, .int (iI (0)), .int (iI (0))])), (rd, .inl (cI, 465, .inl ((fun _ => iI 0))))] := hD
  refine lv_aload_n hx hb d_De_init_13 rfl (lv_at hl 0 rfl) ?_
  refine lv_bipush (v := iI 45) hx hb d_De_init_14 (by decide +kernel) ?_
  refine va_put (D := D) (ci := 2) (v := .int (iI (45))) (ty := .int) (C := R_De) (T := T_De) (N := 3) hx hb hts (fun w h => List.mem_cons_of_mem _ (in_De w h)) y_De t_De n_De hown hK hP hD hS 0 rfl rfl 1 (by decide) (hts _ (List.mem_cons_of_mem _ tw_380)) (fun _ h9 => h9) rfl (by decide +kernel) rfl rfl (Nat.le_of_ble_eq_true rfl) d_De_init_16 (fun H locs hP hD hS => ?_)
  have hP : va_P D ecl [(dc, .inr (2, [.ref rd, .int (iI (45)), .int (iI (0))])), (rd, .inl (cI, 465, .inl ((fun _ => iI 0))))] H := hP
  have hD : va_D A [(dc, .inr (2, [.ref rd, .int (iI (45)), .int (iI (0))])), (rd, .inl (cI, 465, .inl ((fun _ => iI 0))))] := hD
  refine ed_pc (pc' := 19) rfl ?_
  refine lv_aload_n hx hb d_De_init_19 rfl (lv_at hl 0 rfl) ?_
  refine lv_bipush (v := iI 45) hx hb d_De_init_20 (by decide +kernel) ?_
  refine va_put (D := D) (ci := 2) (v := .int (iI (45))) (ty := .int) (C := R_De) (T := T_De) (N := 3) hx hb hts (fun w h => List.mem_cons_of_mem _ (in_De w h)) y_De t_De n_De hown hK hP hD hS 0 rfl rfl 2 (by decide) (hts _ (List.mem_cons_of_mem _ tw_382)) (fun _ h9 => h9) rfl (by decide +kernel) rfl rfl (Nat.le_of_ble_eq_true rfl) d_De_init_22 (fun H locs hP hD hS => ?_)
  have hP : va_P D ecl [(dc, .inr (2, [.ref rd, .int (iI (45)), .int (iI (45))])), (rd, .inl (cI, 465, .inl ((fun _ => iI 0))))] H := hP
  have hD : va_D A [(dc, .inr (2, [.ref rd, .int (iI (45)), .int (iI (45))])), (rd, .inl (cI, 465, .inl ((fun _ => iI 0))))] := hD
  exact W.vret hx hb hr (fun t9 ht9 hW9 => ⟨⟨[(dc, .inr (2, [.ref rd, .int (iI (45)), .int (iI (45))])), (rd, .inl (cI, 465, .inl ((fun _ => iI 0))))], rfl, ⟨rd, rfl⟩, by rw [ht9]; exact hP, hD⟩, hS.F ht9⟩) hS.2.2 d_De_init_25
