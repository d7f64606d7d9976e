set_option maxHeartbeats 4000000 in
set_option maxRecDepth 100000 in
theorem c_Ed_isBeyond (l : Launch) (D : va_G) (cB cI cJ : ClassId) (t5 : Nat) (ad : Nat → Nat) (k mo : Int) (hk : iR k) (hmo : 0 ≤ mo ∧ mo ≤ 100000) : c_I l m_Ed_isBeyond (Cond.code m_Ed_isBeyond b_Ed_isBeyond 2 (some .boolean) :: gw) (rm_ 0 0) (eX t5 ad) D ecl (tyS cB cI cJ) [.int (iI (k)), .int (iI (mo))] [] (fun r u => r = iI (if k < -mo ∨ mo < k then 1 else 0) ∧ u = []) 0 0 := by
  intro sz0
  refine Met.ofW (cc := b_Ed_isBeyond) (maxL := 2) (ret := (some .boolean)) (by decide) rfl ?_
  intro p e s m args below meth c s₁ B hml hv
  obtain ⟨rfl, hsz, hP, hK, hD0, hE⟩ := hv
  have hx := B.exec
  have hb := B.bytes
  have hr := B.returns
  have hts := atoms_spec (ws := Cond.code m_Ed_isBeyond b_Ed_isBeyond 2 (some .boolean) :: gw) B.pre
  have hown : s.vm.findClass R_Ed = some m.cls := findClass_of_methodNamed B.named
  have hlocks := B.notSynchronized
  subst hsz
  have hD := hD0.self (sz := s.heap.size)
  generalize hAe : va_A [] s.heap.size = A at hD hE ⊢
  have hA : ∀ q : Nat, s.heap.size ≤ q → A q := fun q h => by rw [← hAe]; exact Or.inr h
  have hS : va_S A s.heap s.heap [] := va_S.rf
  have hl := lv_entry ([.int (iI (k)), .int (iI (mo))]) (n := 2) (Nat.le_of_ble_eq_true rfl)
  rw [lg_entry_eq]
  generalize (lg_sl ([.int (iI (k)), .int (iI (mo))]) ++ List.replicate (2 - (lg_sl ([.int (iI (k)), .int (iI (mo))])).length) Slot.unset).toArray = ls at hl ⊢
  have hl : lv_has ls 2 [(0, .int (iI (k))), (1, .int (iI (mo)))] := hl
  refine lv_iload_n hx hb d_Ed_isBeyond_0 rfl (lv_at hl 0 rfl) ?_
  refine lv_iload_n hx hb d_Ed_isBeyond_1 rfl (lv_at hl 1 rfl) ?_
  refine ed_ineg hx hb d_Ed_isBeyond_2 ?_
  refine ed_icmp_lt (tgt := 11) hx hb d_Ed_isBeyond_3 rfl (by omega) (by omega) (fun h_1 => ?_) (fun h_1 => ?_)
  · skip
    refine ed_pc (pc' := 11) rfl ?_
    refine lv_iconst (v := iI 1) hx hb d_Ed_isBeyond_11 rfl ?_
    refine lv_goto (tgt := 16) hx hb d_Ed_isBeyond_12 rfl ?_
    exact W.zret (v := (iI (1))) hx hb hr (by decide +kernel) (fun t9 ht9 hW9 => ⟨⟨(iI (1)), [], rfl, ⟨by rw [if_pos (by omega)], rfl⟩, by rw [ht9]; exact hP, hD⟩, hS.F ht9⟩) hS.2.2 d_Ed_isBeyond_16
  · skip
    refine ed_pc (pc' := 6) rfl ?_
    refine lv_iload_n hx hb d_Ed_isBeyond_6 rfl (lv_at hl 0 rfl) ?_
    refine lv_iload_n hx hb d_Ed_isBeyond_7 rfl (lv_at hl 1 rfl) ?_
    refine ed_icmp_le (tgt := 15) hx hb d_Ed_isBeyond_8 rfl (by omega) (by omega) (fun h_2 => ?_) (fun h_2 => ?_)
    · skip
      refine ed_pc (pc' := 15) rfl ?_
      refine ed_pc (pc' := 15) rfl ?_
      refine lv_iconst (v := iI 0) hx hb d_Ed_isBeyond_15 rfl ?_
      exact W.zret (v := (iI (0))) hx hb hr (by decide +kernel) (fun t9 ht9 hW9 => ⟨⟨(iI (0)), [], rfl, ⟨by rw [if_neg (by omega)], rfl⟩, by rw [ht9]; exact hP, hD⟩, hS.F ht9⟩) hS.2.2 d_Ed_isBeyond_16
    · skip
      refine ed_pc (pc' := 11) rfl ?_
      refine ed_pc (pc' := 11) rfl ?_
      refine lv_iconst (v := iI 1) hx hb d_Ed_isBeyond_11 rfl ?_
      refine lv_goto (tgt := 16) hx hb d_Ed_isBeyond_12 rfl ?_
      exact W.zret (v := (iI (1))) hx hb hr (by decide +kernel) (fun t9 ht9 hW9 => ⟨⟨(iI (1)), [], rfl, ⟨by rw [if_pos (by omega)], rfl⟩, by rw [ht9]; exact hP, hD⟩, hS.F ht9⟩) hS.2.2 d_Ed_isBeyond_16
set_option maxHeartbeats 4000000 in
set_option maxRecDepth 100000 in
theorem c_Ed_formatOf (l : Launch) (D : va_G) (cB cI cJ : ClassId) (t5 : Nat) (ad : Nat → Nat) (zz : Int) (kf : Nat) (hzz : iR zz) (hkf9 : kf = if zz = 0 then 0 else 1) : c_R l m_Ed_formatOf (Cond.code m_Ed_formatOf b_Ed_formatOf 1 (some (.object "ExactDigits$Format")) :: gw) (rm_ 0 0) (eX t5 ad) D ecl (tyS cB cI cJ) [.int (iI (zz))] [] ((ad kf)) 0 0 := by
  intro sz0
  refine Met.ofW (cc := b_Ed_formatOf) (maxL := 1) (ret := (some (.object "ExactDigits$Format"))) (by decide) rfl ?_
  intro p e s m args below meth c s₁ B hml hv
  obtain ⟨rfl, hsz, hP, hK, hD0, hE⟩ := hv
  have hx := B.exec
  have hb := B.bytes
  have hr := B.returns
  have hts := atoms_spec (ws := Cond.code m_Ed_formatOf b_Ed_formatOf 1 (some (.object "ExactDigits$Format")) :: gw) B.pre
  have hown : s.vm.findClass R_Ed = some m.cls := findClass_of_methodNamed B.named
  have hlocks := B.notSynchronized
  subst hsz
  have hD := hD0.self (sz := s.heap.size)
  generalize hAe : va_A [] s.heap.size = A at hD hE ⊢
  have hA : ∀ q : Nat, s.heap.size ≤ q → A q := fun q h => by rw [← hAe]; exact Or.inr h
  have hS : va_S A s.heap s.heap [] := va_S.rf
  have hl := lv_entry ([.int (iI (zz))]) (n := 1) (Nat.le_of_ble_eq_true rfl)
  rw [lg_entry_eq]
  generalize (lg_sl ([.int (iI (zz))]) ++ List.replicate (1 - (lg_sl ([.int (iI (zz))])).length) Slot.unset).toArray = ls at hl ⊢
  have hl : lv_has ls 1 [(0, .int (iI (zz)))] := hl
  have hE0 := hE
  obtain ⟨hE1, hE2, hE3, hE4, hE5, hE6, hE7, hE8, hE9, hE10, hE11, hE12⟩ := hE0
  refine lv_iload_n hx hb d_Ed_formatOf_0 rfl (lv_at hl 0 rfl) ?_
  refine ed_if_eq (tgt := 10) hx hb d_Ed_formatOf_1 rfl (by omega) (fun h_1 => ?_) (fun h_1 => ?_)
  · skip
    refine ed_pc (pc' := 10) rfl ?_
    refine va_gets hx hb hE3 hS hown (hts _ (List.mem_cons_of_mem _ tw_108)) (fun _ h => h) d_Ed_formatOf_10 ?_
    exact W.aret (v := .ref (ad 0)) hx hb hr (Or.inl ⟨_, rfl⟩) (Or.inr ⟨_, rfl⟩) (fun t9 ht9 hW9 => ⟨⟨[], ad 0, rfl, rfl, by rw [hkf9, if_pos (by omega)], by rw [ht9]; exact hP, hD⟩, hS.F ht9⟩) hS.2.2 d_Ed_formatOf_13
  · skip
    refine ed_pc (pc' := 4) rfl ?_
    refine va_gets hx hb hE4 hS hown (hts _ (List.mem_cons_of_mem _ tw_106)) (fun _ h => h) d_Ed_formatOf_4 ?_
    refine lv_goto (tgt := 13) hx hb d_Ed_formatOf_7 rfl ?_
    exact W.aret (v := .ref (ad 1)) hx hb hr (Or.inl ⟨_, rfl⟩) (Or.inr ⟨_, rfl⟩) (fun t9 ht9 hW9 => ⟨⟨[], ad 1, rfl, rfl, by rw [hkf9, if_neg (by omega)], by rw [ht9]; exact hP, hD⟩, hS.F ht9⟩) hS.2.2 d_Ed_formatOf_13
set_option maxHeartbeats 4000000 in
set_option maxRecDepth 100000 in
theorem c_Ed_bitsOfTenTo (l : Launch) (D : va_G) (cB cI cJ : ClassId) (t5 : Nat) (ad : Nat → Nat) (k : Int) (hk : -5000 ≤ k ∧ k ≤ 5000) : c_I l m_Ed_bitsOfTenTo (Cond.code m_Ed_bitsOfTenTo b_Ed_bitsOfTenTo 1 (some .int) :: gw) (rm_ 0 0) (eX t5 ad) D ecl (tyS cB cI cJ) [.int (iI (k))] [] (fun r u => r = iI (k * 217706 / 65536) ∧ u = []) 0 0 := by
  intro sz0
  refine Met.ofW (cc := b_Ed_bitsOfTenTo) (maxL := 1) (ret := (some .int)) (by decide) rfl ?_
  intro p e s m args below meth c s₁ B hml hv
  obtain ⟨rfl, hsz, hP, hK, hD0, hE⟩ := hv
  have hx := B.exec
  have hb := B.bytes
  have hr := B.returns
  have hts := atoms_spec (ws := Cond.code m_Ed_bitsOfTenTo b_Ed_bitsOfTenTo 1 (some .int) :: gw) B.pre
  have hown : s.vm.findClass R_Ed = some m.cls := findClass_of_methodNamed B.named
  have hlocks := B.notSynchronized
  subst hsz
  have hD := hD0.self (sz := s.heap.size)
  generalize hAe : va_A [] s.heap.size = A at hD hE ⊢
  have hA : ∀ q : Nat, s.heap.size ≤ q → A q := fun q h => by rw [← hAe]; exact Or.inr h
  have hS : va_S A s.heap s.heap [] := va_S.rf
  have hl := lv_entry ([.int (iI (k))]) (n := 1) (Nat.le_of_ble_eq_true rfl)
  rw [lg_entry_eq]
  generalize (lg_sl ([.int (iI (k))]) ++ List.replicate (1 - (lg_sl ([.int (iI (k))])).length) Slot.unset).toArray = ls at hl ⊢
  have hl : lv_has ls 1 [(0, .int (iI (k)))] := hl
  refine lv_iload_n hx hb d_Ed_bitsOfTenTo_0 rfl (lv_at hl 0 rfl) ?_
  refine lv_ldc (v := 217706) hx hb hown (hts _ (List.mem_cons_of_mem _ tw_117)) d_Ed_bitsOfTenTo_1 ?_
  refine ed_ti (y := (iI (217706))) (by decide +kernel) ?_
  refine ed_imul hx hb d_Ed_bitsOfTenTo_3 ?_
  refine lv_bipush (v := iI 16) hx hb d_Ed_bitsOfTenTo_4 (by decide +kernel) ?_
  refine lv_ishr hx hb d_Ed_bitsOfTenTo_6 ?_
  refine ed_ti (y := (iI (k * 217706 / 65536))) (shr16 (by omega)) ?_
  exact W.iret (v := (iI (k * 217706 / 65536))) hx hb hr (fun t9 ht9 hW9 => ⟨⟨(iI (k * 217706 / 65536)), [], rfl, ⟨rfl, rfl⟩, by rw [ht9]; exact hP, hD⟩, hS.F ht9⟩) hS.2.2 d_Ed_bitsOfTenTo_7
set_option maxHeartbeats 4000000 in
set_option maxRecDepth 100000 in
theorem c_Ed_dropZerosBehind (l : Launch) (D : va_G) (cB cI cJ : ClassId) (t5 : Nat) (ad : Nat → Nat) (x dg q : Nat) (g : Nat → Int32) (pt zl : Int) (X : Nat) (h1200 : dl X ≤ 1200) (hg : dg_ok g (dl X) X) : c_V l m_Ed_dropZerosBehind (Cond.code m_Ed_dropZerosBehind b_Ed_dropZerosBehind 1 none :: gw) (rm_ 0 0) (eX t5 ad) D ecl (tyS cB cI cJ) [.ref x] [(x, .inr (1, [.ref dg, .int (iI (((dl X : Nat) : Int))), .int (iI (pt)), .int (iI (zl)), .ref q])), (dg, .inl (cB, 1200, .inl g))] (fun u => dg_ok g (dl (rz X)) (rz X) ∧ u = [(x, .inr (1, [.ref dg, .int (iI (((dl (rz X) : Nat) : Int))), .int (iI (if X = 0 then 0 else pt)), .int (iI (zl)), .ref q])), (dg, .inl (cB, 1200, .inl g))]) 0 0 := by
  intro sz0
  refine Met.ofW (cc := b_Ed_dropZerosBehind) (maxL := 1) (ret := none) (by decide) rfl ?_
  intro p e s m args below meth c s₁ B hml hv
  obtain ⟨rfl, hsz, hP, hK, hD0, hE⟩ := hv
  have hx := B.exec
  have hb := B.bytes
  have hr := B.returns
  have hts := atoms_spec (ws := Cond.code m_Ed_dropZerosBehind b_Ed_dropZerosBehind 1 none :: gw) B.pre
  have hown : s.vm.findClass R_Ed = some m.cls := findClass_of_methodNamed B.named
  have hlocks := B.notSynchronized
  subst hsz
  have hD := hD0.self (sz := s.heap.size)
  generalize hAe : va_A [(x, .inr (1, [.ref dg, .int (iI (((dl X : Nat) : Int))), .int (iI (pt)), .int (iI (zl)), .ref q])), (dg, .inl (cB, 1200, .inl g))] s.heap.size = A at hD hE ⊢
  have hA : ∀ q : Nat, s.heap.size ≤ q → A q := fun q h => by rw [← hAe]; exact Or.inr h
  have hS : va_S A s.heap s.heap [] := va_S.rf
  have hl := lv_entry ([.ref x]) (n := 1) (Nat.le_of_ble_eq_true rfl)
  rw [lg_entry_eq]
  generalize (lg_sl ([.ref x]) ++ List.replicate (1 - (lg_sl ([.ref x])).length) Slot.unset).toArray = ls at hl ⊢
  have hl : lv_has ls 1 [(0, .ref x)] := hl
  have L0 : ∀ (n9 : Nat) (Y : Nat) (zc : Int) (ls : Array Slot) (H : Heap) (locs : List Loc), dl Y = n9 → (zc = ((dl Y : Nat) : Int)) → (dl Y ≤ 1200) → (dg_ok g (dl Y) Y) → (rz Y = rz X) → ((Y = 0 ↔ X = 0)) → lv_has ls 1 [(0, .ref x)] → va_P D ecl [(x, .inr (1, [.ref dg, .int (iI (zc)), .int (iI (pt)), .int (iI (zl)), .ref q])), (dg, .inl (cB, 1200, .inl g))] H → va_D A [(x, .inr (1, [.ref dg, .int (iI (zc)), .int (iI (pt)), .int (iI (zl)), .ref q])), (dg, .inl (cB, 1200, .inl g))] → va_S A s.heap H locs → W p l e (headSpec (Cond.code m_Ed_dropZerosBehind b_Ed_dropZerosBehind 1 none :: gw) (rm_ 0 0)).room s m ([.ref x] : List Value).toArray below meth c H locs 0 0 (MQ below (va_Qv (fun u => dg_ok g (dl (rz X)) (rz X) ∧ u = [(x, .inr (1, [.ref dg, .int (iI (((dl (rz X) : Nat) : Int))), .int (iI (if X = 0 then 0 else pt)), .int (iI (zl)), .ref q])), (dg, .inl (cB, 1200, .inl g))]) (c_B D ecl A) A) ([.ref x] : List Value).toArray s 0 0 A) (F0 m 0 ls []) := by
    intro n9
    induction n9 using Nat.strongRecOn with
    | ind n9 ih =>
    intro Y zc ls H locs hn9 hzc hY hYg hYr hY0 hl hP hD hS
    refine lv_aload_n hx hb d_Ed_dropZerosBehind_0 rfl (lv_at hl 0 rfl) ?_
    refine va_get (D := D) (ci := 1) (v := .int (iI (zc))) (C := R_Ed) (T := T_Ed) (N := 5) hx hb hts (fun w h => List.mem_cons_of_mem _ (in_Ed w h)) hown hK hP 0 rfl rfl 1 (by decide) (hts _ (List.mem_cons_of_mem _ tw_41)) (fun _ h9 => h9) rfl d_Ed_dropZerosBehind_1 ?_
    refine ed_if_le (tgt := 34) hx hb d_Ed_dropZerosBehind_4 rfl (by omega) (fun h_1 => ?_) (fun h_1 => ?_)
    · skip
      refine ed_pc (pc' := 34) rfl ?_
      have hYe : Y = rz X := by
        rw [← hYr]
        rcases Nat.eq_zero_or_pos Y with z | z
        · rw [z, rz_0]
        · exact (rz_n (by have := dl_pos z; omega)).symm
      have hzc2 : zc = ((dl (rz X) : Nat) : Int) := by rw [hzc, hYe]
      rw [hYe] at hYg hY0
      refine lv_aload_n hx hb d_Ed_dropZerosBehind_34 rfl (lv_at hl 0 rfl) ?_
      refine va_get (D := D) (ci := 1) (v := .int (iI (zc))) (C := R_Ed) (T := T_Ed) (N := 5) hx hb hts (fun w h => List.mem_cons_of_mem _ (in_Ed w h)) hown hK hP 0 rfl rfl 1 (by decide) (hts _ (List.mem_cons_of_mem _ tw_41)) (fun _ h9 => h9) rfl d_Ed_dropZerosBehind_35 ?_
      refine ed_if_ne (tgt := 46) hx hb d_Ed_dropZerosBehind_38 rfl (by omega) (fun h_2 => ?_) (fun h_2 => ?_)
      · skip
        refine ed_pc (pc' := 46) rfl ?_
        have hX0 : ¬ X = 0 := fun z => by rw [z, rz_0, dl_0] at hzc2; omega
        exact W.vret hx hb hr (fun t9 ht9 hW9 => ⟨⟨[(x, .inr (1, [.ref dg, .int (iI (zc)), .int (iI (pt)), .int (iI (zl)), .ref q])), (dg, .inl (cB, 1200, .inl g))], rfl, ⟨hYg, by rw [hzc2, if_neg hX0]⟩, by rw [ht9]; exact hP, hD⟩, hS.F ht9⟩) hS.2.2 d_Ed_dropZerosBehind_46
      · skip
        refine ed_pc (pc' := 41) rfl ?_
        refine lv_aload_n hx hb d_Ed_dropZerosBehind_41 rfl (lv_at hl 0 rfl) ?_
        refine ed_pc (pc' := 42) rfl ?_
        refine lv_iconst (v := iI 0) hx hb d_Ed_dropZerosBehind_42 rfl ?_
        refine va_put (D := D) (ci := 1) (v := .int (iI (0))) (ty := .int) (C := R_Ed) (T := T_Ed) (N := 5) hx hb hts (fun w h => List.mem_cons_of_mem _ (in_Ed w h)) y_Ed t_Ed n_Ed hown hK hP hD hS 0 rfl rfl 2 (by decide) (hts _ (List.mem_cons_of_mem _ tw_42)) (fun _ h9 => h9) rfl (by decide +kernel) rfl rfl (Nat.le_of_ble_eq_true rfl) d_Ed_dropZerosBehind_43 (fun H locs hP hD hS => ?_)
        have hP : va_P D ecl [(x, .inr (1, [.ref dg, .int (iI (zc)), .int (iI (0)), .int (iI (zl)), .ref q])), (dg, .inl (cB, 1200, .inl g))] H := hP
        have hD : va_D A [(x, .inr (1, [.ref dg, .int (iI (zc)), .int (iI (0)), .int (iI (zl)), .ref q])), (dg, .inl (cB, 1200, .inl g))] := hD
        have hX0 : X = 0 := hY0.mp (dl_eq0 (by omega))
        exact W.vret hx hb hr (fun t9 ht9 hW9 => ⟨⟨[(x, .inr (1, [.ref dg, .int (iI (zc)), .int (iI (0)), .int (iI (zl)), .ref q])), (dg, .inl (cB, 1200, .inl g))], rfl, ⟨hYg, by rw [hzc2, if_pos hX0]⟩, by rw [ht9]; exact hP, hD⟩, hS.F ht9⟩) hS.2.2 d_Ed_dropZerosBehind_46
    · skip
      refine ed_pc (pc' := 7) rfl ?_
      have hYp : 0 < Y := by rcases Nat.eq_zero_or_pos Y with z | z; rw [z, dl_0] at hzc; omega; exact z
      have hdY : dl (Y / 10) = dl Y - 1 := by have := dl_s hYp; omega
      have hsub : dl Y - 1 + 1 = dl Y := by have := dl_pos hYp; omega
      obtain ⟨d0, hd00⟩ : ∃ d0 : Nat, d0 = Y % 10 := ⟨_, rfl⟩
      refine lv_aload_n hx hb d_Ed_dropZerosBehind_7 rfl (lv_at hl 0 rfl) ?_
      refine va_get (D := D) (ci := 1) (v := .ref dg) (C := R_Ed) (T := T_Ed) (N := 5) hx hb hts (fun w h => List.mem_cons_of_mem _ (in_Ed w h)) hown hK hP 0 rfl rfl 0 (by decide) (hts _ (List.mem_cons_of_mem _ tw_40)) (fun _ h9 => h9) rfl d_Ed_dropZerosBehind_8 ?_
      refine lv_aload_n hx hb d_Ed_dropZerosBehind_11 rfl (lv_at hl 0 rfl) ?_
      refine va_get (D := D) (ci := 1) (v := .int (iI (zc))) (C := R_Ed) (T := T_Ed) (N := 5) hx hb hts (fun w h => List.mem_cons_of_mem _ (in_Ed w h)) hown hK hP 0 rfl rfl 1 (by decide) (hts _ (List.mem_cons_of_mem _ tw_41)) (fun _ h9 => h9) rfl d_Ed_dropZerosBehind_12 ?_
      refine ed_pc (pc' := 15) rfl ?_
      refine lv_iconst (v := iI 1) hx hb d_Ed_dropZerosBehind_15 rfl ?_
      refine ed_isub hx hb d_Ed_dropZerosBehind_16 ?_
      refine ed_bald (y := (d0 : Int)) hx hb hK hP 1 0 rfl rfl (dl Y - 1) (by omega) (by omega) (by decide) (by rw [hd00, hYg (dl Y - 1) (by omega), show dl Y - 1 - (dl Y - 1) = 0 by omega, Nat.pow_zero, Nat.div_one]) d_Ed_dropZerosBehind_17 ?_
      refine ed_if_ne (tgt := 34) hx hb d_Ed_dropZerosBehind_18 rfl (by omega) (fun h_3 => ?_) (fun h_3 => ?_)
      · skip
        refine ed_pc (pc' := 34) rfl ?_
        have hYe : Y = rz X := by
          rw [← hYr]
          rcases Nat.eq_zero_or_pos Y with z | z
          · rw [z, rz_0]
          · exact (rz_n (by have := dl_pos z; omega)).symm
        have hzc2 : zc = ((dl (rz X) : Nat) : Int) := by rw [hzc, hYe]
        rw [hYe] at hYg hY0
        refine lv_aload_n hx hb d_Ed_dropZerosBehind_34 rfl (lv_at hl 0 rfl) ?_
        refine va_get (D := D) (ci := 1) (v := .int (iI (zc))) (C := R_Ed) (T := T_Ed) (N := 5) hx hb hts (fun w h => List.mem_cons_of_mem _ (in_Ed w h)) hown hK hP 0 rfl rfl 1 (by decide) (hts _ (List.mem_cons_of_mem _ tw_41)) (fun _ h9 => h9) rfl d_Ed_dropZerosBehind_35 ?_
        refine ed_if_ne (tgt := 46) hx hb d_Ed_dropZerosBehind_38 rfl (by omega) (fun h_4 => ?_) (fun h_4 => ?_)
        · skip
          refine ed_pc (pc' := 46) rfl ?_
          have hX0 : ¬ X = 0 := fun z => by rw [z, rz_0, dl_0] at hzc2; omega
          exact W.vret hx hb hr (fun t9 ht9 hW9 => ⟨⟨[(x, .inr (1, [.ref dg, .int (iI (zc)), .int (iI (pt)), .int (iI (zl)), .ref q])), (dg, .inl (cB, 1200, .inl g))], rfl, ⟨hYg, by rw [hzc2, if_neg hX0]⟩, by rw [ht9]; exact hP, hD⟩, hS.F ht9⟩) hS.2.2 d_Ed_dropZerosBehind_46
        · skip
          refine ed_pc (pc' := 41) rfl ?_
          refine lv_aload_n hx hb d_Ed_dropZerosBehind_41 rfl (lv_at hl 0 rfl) ?_
          refine ed_pc (pc' := 42) rfl ?_
          refine lv_iconst (v := iI 0) hx hb d_Ed_dropZerosBehind_42 rfl ?_
          refine va_put (D := D) (ci := 1) (v := .int (iI (0))) (ty := .int) (C := R_Ed) (T := T_Ed) (N := 5) hx hb hts (fun w h => List.mem_cons_of_mem _ (in_Ed w h)) y_Ed t_Ed n_Ed hown hK hP hD hS 0 rfl rfl 2 (by decide) (hts _ (List.mem_cons_of_mem _ tw_42)) (fun _ h9 => h9) rfl (by decide +kernel) rfl rfl (Nat.le_of_ble_eq_true rfl) d_Ed_dropZerosBehind_43 (fun H locs hP hD hS => ?_)
          have hP : va_P D ecl [(x, .inr (1, [.ref dg, .int (iI (zc)), .int (iI (0)), .int (iI (zl)), .ref q])), (dg, .inl (cB, 1200, .inl g))] H := hP
          have hD : va_D A [(x, .inr (1, [.ref dg, .int (iI (zc)), .int (iI (0)), .int (iI (zl)), .ref q])), (dg, .inl (cB, 1200, .inl g))] := hD
          have hX0 : X = 0 := hY0.mp (dl_eq0 (by omega))
          exact W.vret hx hb hr (fun t9 ht9 hW9 => ⟨⟨[(x, .inr (1, [.ref dg, .int (iI (zc)), .int (iI (0)), .int (iI (zl)), .ref q])), (dg, .inl (cB, 1200, .inl g))], rfl, ⟨hYg, by rw [hzc2, if_pos hX0]⟩, by rw [ht9]; exact hP, hD⟩, hS.F ht9⟩) hS.2.2 d_Ed_dropZerosBehind_46
      · skip
        refine ed_pc (pc' := 21) rfl ?_
        have hd0 : Y % 10 = 0 := by omega
        refine lv_aload_n hx hb d_Ed_dropZerosBehind_21 rfl (lv_at hl 0 rfl) ?_
        refine lv_dup hx hb d_Ed_dropZerosBehind_22 rfl ?_
        refine va_get (D := D) (ci := 1) (v := .int (iI (zc))) (C := R_Ed) (T := T_Ed) (N := 5) hx hb hts (fun w h => List.mem_cons_of_mem _ (in_Ed w h)) hown hK hP 0 rfl rfl 1 (by decide) (hts _ (List.mem_cons_of_mem _ tw_41)) (fun _ h9 => h9) rfl d_Ed_dropZerosBehind_23 ?_
        refine lv_iconst (v := iI 1) hx hb d_Ed_dropZerosBehind_26 rfl ?_
        refine ed_pc (pc' := 27) rfl ?_
        refine ed_isub hx hb d_Ed_dropZerosBehind_27 ?_
        refine va_put (D := D) (ci := 1) (v := .int (iI ((zc) - (1)))) (ty := .int) (C := R_Ed) (T := T_Ed) (N := 5) hx hb hts (fun w h => List.mem_cons_of_mem _ (in_Ed w h)) y_Ed t_Ed n_Ed hown hK hP hD hS 0 rfl rfl 1 (by decide) (hts _ (List.mem_cons_of_mem _ tw_41)) (fun _ h9 => h9) rfl (by decide +kernel) rfl rfl (Nat.le_of_ble_eq_true rfl) d_Ed_dropZerosBehind_28 (fun H locs hP hD hS => ?_)
        have hP : va_P D ecl [(x, .inr (1, [.ref dg, .int (iI ((zc) - (1))), .int (iI (pt)), .int (iI (zl)), .ref q])), (dg, .inl (cB, 1200, .inl g))] H := hP
        have hD : va_D A [(x, .inr (1, [.ref dg, .int (iI ((zc) - (1))), .int (iI (pt)), .int (iI (zl)), .ref q])), (dg, .inl (cB, 1200, .inl g))] := hD
        refine lv_goto (tgt := 0) hx hb d_Ed_dropZerosBehind_31 rfl ?_
        have hl := lv_sub hl [0] rfl
        exact ih _ (by omega) (Y / 10) _ ls H locs rfl (by omega) (by omega) (by rw [hdY]; exact dg_drop (by rw [hsub]; exact hYg)) (by rw [← hYr, ← rz_y hYp hd0]) (by omega) hl hP hD hS
  have hl := lv_sub hl [0] rfl
  exact L0 _ (X) _ ls s.heap [] rfl (rfl) (h1200) (hg) (rfl) (Iff.rfl) hl hP hD hS
