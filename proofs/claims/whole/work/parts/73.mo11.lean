set_option maxHeartbeats 4000000 in
set_option maxRecDepth 100000 in
theorem c_Mo_put (l : Launch) (D : va_G) (cB cI cJ : ClassId) (t5 : Nat) (ad : Nat → Nat) (mo nb nd un ov xx dc : Nat) (d : Nat → Int32) (pt zl th pw zk : Int) (ma : Int64) (k z : Int) (X i : Nat) (hnm : nm_ok d X) (hpt : -9000000 ≤ pt ∧ pt ≤ 9000000) (hk : -400 ≤ k ∧ k ≤ 400) (hd : 0 ≤ z ∧ z ≤ 9) (hzl : zl = 0) (hi : (X = 0 ∧ i = 0) ∨ (¬ X = 0 ∧ pt + k = (i : Int) ∧ dl X ≤ i ∧ i < 1200)) : c_I l m_Mo_put (Cond.code m_Mo_put b_Mo_put 6 (some .int) :: gw) (rm_ 0 0) (eX t5 ad) D ecl (tyS cB cI cJ) [.ref mo, .int (iI (k)), .int (iI (z))] [(mo, .inr (4, [.ref nb, .ref un, .ref ov, .ref xx, .ref dc, .int (iI (zl)), .int (iI (th)), .long (ma), .int (iI (pw)), .int (iI (zk))])), (nb, .inr (3, [.ref nd, .int (iI (((dl X : Nat) : Int))), .int (iI (pt))])), (nd, .inl (cB, 4200, .inl d))] (fun r u => ∃ (d' : Nat → Int32) (X' : Nat) (pt' : Int), r = iI ((dl X' : Nat) : Int) ∧ nm_ok d' X' ∧ ((z = 0 ∧ X' = X ∧ pt' = pt) ∨ (0 < z ∧ X' = apX X i z.toNat ∧ pt' = if X = 0 then -k else pt)) ∧ u = [(mo, .inr (4, [.ref nb, .ref un, .ref ov, .ref xx, .ref dc, .int (iI (zl)), .int (iI (0)), .long (ma), .int (iI (pw)), .int (iI (zk))])), (nb, .inr (3, [.ref nd, .int (iI (((dl X' : Nat) : Int))), .int (iI (pt'))])), (nd, .inl (cB, 4200, .inl d'))]) 0 0 := by
  intro sz0
  refine Met.ofW (cc := b_Mo_put) (maxL := 6) (ret := (some .int)) (by decide) rfl ?_
  intro p e s m args below meth c s₁ B hml hv
  obtain ⟨rfl, hsz, hP, hK, hD0, hE⟩ := hv
  have hx := B.exec
  have hb := B.bytes
  have hr := B.returns
  have hts := atoms_spec (ws := Cond.code m_Mo_put b_Mo_put 6 (some .int) :: gw) B.pre
  have hown : s.vm.findClass R_Mo = some m.cls := findClass_of_methodNamed B.named
  have hlocks := B.notSynchronized
  subst hsz
  have hD := hD0.self (sz := s.heap.size)
  generalize hAe : va_A [(mo, .inr (4, [.ref nb, .ref un, .ref ov, .ref xx, .ref dc, .int (iI (zl)), .int (iI (th)), .long (ma), .int (iI (pw)), .int (iI (zk))])), (nb, .inr (3, [.ref nd, .int (iI (((dl X : Nat) : Int))), .int (iI (pt))])), (nd, .inl (cB, 4200, .inl d))] s.heap.size = A at hD hE ⊢
  have hA : ∀ q : Nat, s.heap.size ≤ q → A q := fun q h => by rw [← hAe]; exact Or.inr h
  have hS : va_S A s.heap s.heap [] := va_S.rf
  have hl := lv_entry ([.ref mo, .int (iI (k)), .int (iI (z))]) (n := 6) (Nat.le_of_ble_eq_true rfl)
  rw [lg_entry_eq]
  generalize (lg_sl ([.ref mo, .int (iI (k)), .int (iI (z))]) ++ List.replicate (6 - (lg_sl ([.ref mo, .int (iI (k)), .int (iI (z))])).length) Slot.unset).toArray = ls at hl ⊢
  have hl : lv_has ls 6 [(0, .ref mo), (1, .int (iI (k))), (2, .int (iI (z)))] := hl
  have hd0 : dl X = 0 ↔ X = 0 := ⟨fun y => dl_eq0 y, fun y => by rw [y, dl_0]⟩
  have hd12 := hnm.1
  have L136 : ∀ (n9 : Nat) (j : Nat) (h : Nat → Int32) (zj : Int) (zp : Int) (zi : Int) (ls : Array Slot) (H : Heap) (locs : List Loc), i - j = n9 → (zi = (i : Int)) → (0 < z) → (zj = (j : Int)) → (zp = if X = 0 then -k else pt) → (dl X ≤ j) → (j ≤ i) → (dg_ok h j (X * 10 ^ (j - dl X))) → lv_has ls 6 [(0, .ref mo), (2, .int (iI (z))), (3, .int (iI (zi))), (5, .int (iI (zj)))] → va_P D ecl [(mo, .inr (4, [.ref nb, .ref un, .ref ov, .ref xx, .ref dc, .int (iI (zl)), .int (iI (0)), .long (ma), .int (iI (pw)), .int (iI (zk))])), (nb, .inr (3, [.ref nd, .int (iI (((dl X : Nat) : Int))), .int (iI (zp))])), (nd, .inl (cB, 4200, .inl h))] H → va_D A [(mo, .inr (4, [.ref nb, .ref un, .ref ov, .ref xx, .ref dc, .int (iI (zl)), .int (iI (0)), .long (ma), .int (iI (pw)), .int (iI (zk))])), (nb, .inr (3, [.ref nd, .int (iI (((dl X : Nat) : Int))), .int (iI (zp))])), (nd, .inl (cB, 4200, .inl h))] → va_S A s.heap H locs → W p l e (headSpec (Cond.code m_Mo_put b_Mo_put 6 (some .int) :: gw) (rm_ 0 0)).room s m ([.ref mo, .int (iI (k)), .int (iI (z))] : List Value).toArray below meth c H locs 0 0 (MQ below (va_Qi (fun r u => ∃ (d' : Nat → Int32) (X' : Nat) (pt' : Int), r = iI ((dl X' : Nat) : Int) ∧ nm_ok d' X' ∧ ((z = 0 ∧ X' = X ∧ pt' = pt) ∨ (0 < z ∧ X' = apX X i z.toNat ∧ pt' = if X = 0 then -k else pt)) ∧ u = [(mo, .inr (4, [.ref nb, .ref un, .ref ov, .ref xx, .ref dc, .int (iI (zl)), .int (iI (0)), .long (ma), .int (iI (pw)), .int (iI (zk))])), (nb, .inr (3, [.ref nd, .int (iI (((dl X' : Nat) : Int))), .int (iI (pt'))])), (nd, .inl (cB, 4200, .inl d'))]) (c_B D ecl A) A) ([.ref mo, .int (iI (k)), .int (iI (z))] : List Value).toArray s 0 0 A) (F0 m 136 ls []) := by
    intro n9
    induction n9 using Nat.strongRecOn with
    | ind n9 ih =>
    intro j h zj zp zi ls H locs hn9 hzi hz0 hj hzp hj1 hj2 hjg hl hP hD hS
    refine lv_iload hx hb d_Mo_put_136 (lv_at hl 3 rfl) ?_
    refine lv_iload_n hx hb d_Mo_put_138 rfl (lv_at hl 2 rfl) ?_
    refine ed_icmp_ge (tgt := 159) hx hb d_Mo_put_139 rfl (by omega) (by omega) (fun h_1 => ?_) (fun h_1 => ?_)
    · skip
      refine ed_pc (pc' := 159) rfl ?_
      refine lv_aload_n hx hb d_Mo_put_159 rfl (lv_at hl 0 rfl) ?_
      refine va_get (D := D) (ci := 4) (v := .ref nb) (C := R_Mo) (T := T_Mo) (N := 10) hx hb hts (fun w h => List.mem_cons_of_mem _ (in_Mo w h)) hown hK hP 0 rfl rfl 0 (by decide) (hts _ (List.mem_cons_of_mem _ tw_390)) (fun _ h9 => h9) rfl d_Mo_put_160 ?_
      refine va_get (D := D) (ci := 3) (v := .ref nd) (C := R_Ro) (T := T_Ro) (N := 3) hx hb hts (fun w h => List.mem_cons_of_mem _ (in_Ro w h)) hown hK hP 1 rfl rfl 0 (by decide) (hts _ (List.mem_cons_of_mem _ tw_360)) (fun _ h9 => h9) rfl d_Mo_put_163 ?_
      refine lv_iload_n hx hb d_Mo_put_166 rfl (lv_at hl 2 rfl) ?_
      refine ed_pc (pc' := 167) rfl ?_
      refine lv_iload_n hx hb d_Mo_put_167 rfl (lv_at hl 1 rfl) ?_
      refine ed_i2b hx hb d_Mo_put_168 (by omega) ?_
      refine ed_tz (y := ((z.toNat : Nat) : Int)) (by omega) ?_
      refine ed_bast hx hb hK hP hD hS 2 0 rfl rfl (i) (by omega) (by omega) (by decide) (by omega) d_Mo_put_169 (fun H locs hP hD hS => ?_)
      have hP : va_P D ecl [(mo, .inr (4, [.ref nb, .ref un, .ref ov, .ref xx, .ref dc, .int (iI (zl)), .int (iI (0)), .long (ma), .int (iI (pw)), .int (iI (zk))])), (nb, .inr (3, [.ref nd, .int (iI (((dl X : Nat) : Int))), .int (iI (zp))])), (nd, .inl (cB, 4200, .inl (upd h (i) ((iI (((z.toNat : Nat) : Int)))))))] H := hP
      have hD : va_D A [(mo, .inr (4, [.ref nb, .ref un, .ref ov, .ref xx, .ref dc, .int (iI (zl)), .int (iI (0)), .long (ma), .int (iI (pw)), .int (iI (zk))])), (nb, .inr (3, [.ref nd, .int (iI (((dl X : Nat) : Int))), .int (iI (zp))])), (nd, .inl (cB, 4200, .inl (upd h (i) ((iI (((z.toNat : Nat) : Int)))))))] := hD
      refine lv_aload_n hx hb d_Mo_put_170 rfl (lv_at hl 0 rfl) ?_
      refine va_get (D := D) (ci := 4) (v := .ref nb) (C := R_Mo) (T := T_Mo) (N := 10) hx hb hts (fun w h => List.mem_cons_of_mem _ (in_Mo w h)) hown hK hP 0 rfl rfl 0 (by decide) (hts _ (List.mem_cons_of_mem _ tw_390)) (fun _ h9 => h9) rfl d_Mo_put_171 ?_
      refine lv_iload_n hx hb d_Mo_put_174 rfl (lv_at hl 2 rfl) ?_
      refine lv_iconst (v := iI 1) hx hb d_Mo_put_175 rfl ?_
      refine ed_iadd hx hb d_Mo_put_176 ?_
      have hdd : 0 < z.toNat ∧ z.toNat < 10 := by omega
      have had := ap_dl (X := X) (i := i) (d := z.toNat) (by omega) (by omega) hdd
      refine ed_tz (y := ((dl (apX X i z.toNat) : Nat) : Int)) (by omega) ?_
      refine ed_pc (pc' := 177) rfl ?_
      refine va_put (D := D) (ci := 3) (v := .int (iI (((dl (apX X i z.toNat) : Nat) : Int)))) (ty := .int) (C := R_Ro) (T := T_Ro) (N := 3) hx hb hts (fun w h => List.mem_cons_of_mem _ (in_Ro w h)) y_Ro t_Ro n_Ro hown hK hP hD hS 1 rfl rfl 1 (by decide) (hts _ (List.mem_cons_of_mem _ tw_362)) (fun _ h9 => h9) rfl (by decide +kernel) rfl rfl (Nat.le_of_ble_eq_true rfl) d_Mo_put_177 (fun H locs hP hD hS => ?_)
      have hP : va_P D ecl [(mo, .inr (4, [.ref nb, .ref un, .ref ov, .ref xx, .ref dc, .int (iI (zl)), .int (iI (0)), .long (ma), .int (iI (pw)), .int (iI (zk))])), (nb, .inr (3, [.ref nd, .int (iI (((dl (apX X i z.toNat) : Nat) : Int))), .int (iI (zp))])), (nd, .inl (cB, 4200, .inl (upd h (i) ((iI (((z.toNat : Nat) : Int)))))))] H := hP
      have hD : va_D A [(mo, .inr (4, [.ref nb, .ref un, .ref ov, .ref xx, .ref dc, .int (iI (zl)), .int (iI (0)), .long (ma), .int (iI (pw)), .int (iI (zk))])), (nb, .inr (3, [.ref nd, .int (iI (((dl (apX X i z.toNat) : Nat) : Int))), .int (iI (zp))])), (nd, .inl (cB, 4200, .inl (upd h (i) ((iI (((z.toNat : Nat) : Int)))))))] := hD
      refine lv_aload_n hx hb d_Mo_put_180 rfl (lv_at hl 0 rfl) ?_
      refine va_get (D := D) (ci := 4) (v := .ref nb) (C := R_Mo) (T := T_Mo) (N := 10) hx hb hts (fun w h => List.mem_cons_of_mem _ (in_Mo w h)) hown hK hP 0 rfl rfl 0 (by decide) (hts _ (List.mem_cons_of_mem _ tw_390)) (fun _ h9 => h9) rfl d_Mo_put_181 ?_
      refine va_get (D := D) (ci := 3) (v := .int (iI (((dl (apX X i z.toNat) : Nat) : Int)))) (C := R_Ro) (T := T_Ro) (N := 3) hx hb hts (fun w h => List.mem_cons_of_mem _ (in_Ro w h)) hown hK hP 1 rfl rfl 1 (by decide) (hts _ (List.mem_cons_of_mem _ tw_362)) (fun _ h9 => h9) rfl d_Mo_put_184 ?_
      have hji : j = i := by omega
      rw [hji] at hjg
      exact W.iret (v := (iI (((dl (apX X i z.toNat) : Nat) : Int)))) hx hb hr (fun t9 ht9 hW9 => ⟨⟨(iI (((dl (apX X i z.toNat) : Nat) : Int))), [(mo, .inr (4, [.ref nb, .ref un, .ref ov, .ref xx, .ref dc, .int (iI (zl)), .int (iI (0)), .long (ma), .int (iI (pw)), .int (iI (zk))])), (nb, .inr (3, [.ref nd, .int (iI (((dl (apX X i z.toNat) : Nat) : Int))), .int (iI (zp))])), (nd, .inl (cB, 4200, .inl (upd h (i) ((iI (((z.toNat : Nat) : Int)))))))], rfl, ⟨upd h i (iI ((z.toNat : Nat) : Int)), apX X i z.toNat, zp, rfl, ap_ok (by omega) (by omega) (by omega) hdd hjg, Or.inr ⟨hz0, rfl, hzp⟩, rfl⟩, by rw [ht9]; exact hP, hD⟩, hS.F ht9⟩) hS.2.2 d_Mo_put_187
    · skip
      refine ed_pc (pc' := 142) rfl ?_
      refine lv_aload_n hx hb d_Mo_put_142 rfl (lv_at hl 0 rfl) ?_
      refine va_get (D := D) (ci := 4) (v := .ref nb) (C := R_Mo) (T := T_Mo) (N := 10) hx hb hts (fun w h => List.mem_cons_of_mem _ (in_Mo w h)) hown hK hP 0 rfl rfl 0 (by decide) (hts _ (List.mem_cons_of_mem _ tw_390)) (fun _ h9 => h9) rfl d_Mo_put_143 ?_
      refine va_get (D := D) (ci := 3) (v := .ref nd) (C := R_Ro) (T := T_Ro) (N := 3) hx hb hts (fun w h => List.mem_cons_of_mem _ (in_Ro w h)) hown hK hP 1 rfl rfl 0 (by decide) (hts _ (List.mem_cons_of_mem _ tw_360)) (fun _ h9 => h9) rfl d_Mo_put_146 ?_
      refine lv_iload hx hb d_Mo_put_149 (lv_at hl 3 rfl) ?_
      refine ed_pc (pc' := 151) rfl ?_
      refine lv_iconst (v := iI 0) hx hb d_Mo_put_151 rfl ?_
      refine ed_bast hx hb hK hP hD hS 2 0 rfl rfl (j) (by omega) (by omega) (by decide) (by omega) d_Mo_put_152 (fun H locs hP hD hS => ?_)
      have hP : va_P D ecl [(mo, .inr (4, [.ref nb, .ref un, .ref ov, .ref xx, .ref dc, .int (iI (zl)), .int (iI (0)), .long (ma), .int (iI (pw)), .int (iI (zk))])), (nb, .inr (3, [.ref nd, .int (iI (((dl X : Nat) : Int))), .int (iI (zp))])), (nd, .inl (cB, 4200, .inl (upd h (j) ((iI (0))))))] H := hP
      have hD : va_D A [(mo, .inr (4, [.ref nb, .ref un, .ref ov, .ref xx, .ref dc, .int (iI (zl)), .int (iI (0)), .long (ma), .int (iI (pw)), .int (iI (zk))])), (nb, .inr (3, [.ref nd, .int (iI (((dl X : Nat) : Int))), .int (iI (zp))])), (nd, .inl (cB, 4200, .inl (upd h (j) ((iI (0))))))] := hD
      refine lv_iinc (k := 3) (v := iI (zj + 1)) hx hb d_Mo_put_153 hl rfl (iI_add _ _) (by decide) rfl (fun ls hl => ?_)
      have hl : lv_has ls 6 [(5, .int (iI (zj + 1))), (0, .ref mo), (2, .int (iI (z))), (3, .int (iI (zi)))] := hl
      refine lv_goto (tgt := 136) hx hb d_Mo_put_156 rfl ?_
      have hl := lv_sub hl [1, 2, 3, 0] rfl
      exact ih _ (by omega) (j + 1) (upd h j (iI 0)) _ _ _ ls H locs rfl (by omega) (hz0) (by omega) (hzp) (by omega) (by omega) (ap_z hj1 hjg) hl hP hD hS
  refine lv_iload_n hx hb d_Mo_put_0 rfl (lv_at hl 1 rfl) ?_
  refine lv_aload_n hx hb d_Mo_put_1 rfl (lv_at hl 0 rfl) ?_
  refine va_get (D := D) (ci := 4) (v := .ref nb) (C := R_Mo) (T := T_Mo) (N := 10) hx hb hts (fun w h => List.mem_cons_of_mem _ (in_Mo w h)) hown hK hP 0 rfl rfl 0 (by decide) (hts _ (List.mem_cons_of_mem _ tw_390)) (fun _ h9 => h9) rfl d_Mo_put_2 ?_
  refine va_get (D := D) (ci := 3) (v := .int (iI (pt))) (C := R_Ro) (T := T_Ro) (N := 3) hx hb hts (fun w h => List.mem_cons_of_mem _ (in_Ro w h)) hown hK hP 1 rfl rfl 2 (by decide) (hts _ (List.mem_cons_of_mem _ tw_364)) (fun _ h9 => h9) rfl d_Mo_put_5 ?_
  refine ed_iadd hx hb d_Mo_put_8 ?_
  refine lv_istore_n hx hb d_Mo_put_9 rfl hl (by decide) rfl (fun ls hl => ?_)
  have hl : lv_has ls 6 [(3, .int (iI ((k) + (pt)))), (0, .ref mo), (1, .int (iI (k))), (2, .int (iI (z)))] := hl
  refine lv_aload_n hx hb d_Mo_put_10 rfl (lv_at hl 1 rfl) ?_
  refine ed_pc (pc' := 11) rfl ?_
  refine va_get (D := D) (ci := 4) (v := .ref nb) (C := R_Mo) (T := T_Mo) (N := 10) hx hb hts (fun w h => List.mem_cons_of_mem _ (in_Mo w h)) hown hK hP 0 rfl rfl 0 (by decide) (hts _ (List.mem_cons_of_mem _ tw_390)) (fun _ h9 => h9) rfl d_Mo_put_11 ?_
  refine va_get (D := D) (ci := 3) (v := .int (iI (((dl X : Nat) : Int)))) (C := R_Ro) (T := T_Ro) (N := 3) hx hb hts (fun w h => List.mem_cons_of_mem _ (in_Ro w h)) hown hK hP 1 rfl rfl 1 (by decide) (hts _ (List.mem_cons_of_mem _ tw_362)) (fun _ h9 => h9) rfl d_Mo_put_14 ?_
  refine ed_if_ne (tgt := 24) hx hb d_Mo_put_17 rfl (by omega) (fun h_2 => ?_) (fun h_2 => ?_)
  · skip
    refine ed_pc (pc' := 24) rfl ?_
    refine lv_iconst (v := iI 0) hx hb d_Mo_put_24 rfl ?_
    refine lv_istore hx hb d_Mo_put_25 hl (by decide) rfl (fun ls hl => ?_)
    have hl : lv_has ls 6 [(4, .int (iI (0))), (3, .int (iI ((k) + (pt)))), (0, .ref mo), (1, .int (iI (k))), (2, .int (iI (z)))] := hl
    refine lv_aload_n hx hb d_Mo_put_27 rfl (lv_at hl 2 rfl) ?_
    refine lv_iload_n hx hb d_Mo_put_28 rfl (lv_at hl 4 rfl) ?_
    refine ed_if_lt (tgt := 82) hx hb d_Mo_put_29 rfl (by omega) (fun h_3 => ?_) (fun h_3 => ?_)
    · exact absurd h_3 (by omega)
    · skip
      refine ed_pc (pc' := 32) rfl ?_
      refine ed_pc (pc' := 32) rfl ?_
      refine lv_iload_n hx hb d_Mo_put_32 rfl (lv_at hl 4 rfl) ?_
      refine lv_bipush (v := iI 9) hx hb d_Mo_put_33 (by decide +kernel) ?_
      refine ed_icmp_gt (tgt := 82) hx hb d_Mo_put_35 rfl (by omega) (by omega) (fun h_4 => ?_) (fun h_4 => ?_)
      · exact absurd h_4 (by omega)
      · skip
        refine ed_pc (pc' := 38) rfl ?_
        refine lv_iload_n hx hb d_Mo_put_38 rfl (lv_at hl 3 rfl) ?_
        refine lv_sipush (v := iI (-400)) hx hb d_Mo_put_39 (by decide +kernel) ?_
        refine ed_icmp_lt (tgt := 82) hx hb d_Mo_put_42 rfl (by omega) (by omega) (fun h_5 => ?_) (fun h_5 => ?_)
        · exact absurd h_5 (by omega)
        · skip
          refine ed_pc (pc' := 45) rfl ?_
          refine lv_iload_n hx hb d_Mo_put_45 rfl (lv_at hl 3 rfl) ?_
          refine lv_sipush (v := iI 400) hx hb d_Mo_put_46 (by decide +kernel) ?_
          refine ed_pc (pc' := 49) rfl ?_
          refine ed_icmp_gt (tgt := 82) hx hb d_Mo_put_49 rfl (by omega) (by omega) (fun h_6 => ?_) (fun h_6 => ?_)
          · exact absurd h_6 (by omega)
          · skip
            refine ed_pc (pc' := 52) rfl ?_
            refine lv_iload hx hb d_Mo_put_52 (lv_at hl 0 rfl) ?_
            refine ed_if_ne (tgt := 75) hx hb d_Mo_put_54 rfl (by omega) (fun h_7 => ?_) (fun h_7 => ?_)
            · exact absurd h_7 (by omega)
            · skip
              refine ed_pc (pc' := 57) rfl ?_
              refine lv_iload_n hx hb d_Mo_put_57 rfl (lv_at hl 1 rfl) ?_
              refine lv_aload_n hx hb d_Mo_put_58 rfl (lv_at hl 2 rfl) ?_
              refine va_get (D := D) (ci := 4) (v := .ref nb) (C := R_Mo) (T := T_Mo) (N := 10) hx hb hts (fun w h => List.mem_cons_of_mem _ (in_Mo w h)) hown hK hP 0 rfl rfl 0 (by decide) (hts _ (List.mem_cons_of_mem _ tw_390)) (fun _ h9 => h9) rfl d_Mo_put_59 ?_
              refine va_get (D := D) (ci := 3) (v := .int (iI (((dl X : Nat) : Int)))) (C := R_Ro) (T := T_Ro) (N := 3) hx hb hts (fun w h => List.mem_cons_of_mem _ (in_Ro w h)) hown hK hP 1 rfl rfl 1 (by decide) (hts _ (List.mem_cons_of_mem _ tw_362)) (fun _ h9 => h9) rfl d_Mo_put_62 ?_
              refine ed_icmp_lt (tgt := 82) hx hb d_Mo_put_65 rfl (by omega) (by omega) (fun h_8 => ?_) (fun h_8 => ?_)
              · exact absurd h_8 (by omega)
              · skip
                refine ed_pc (pc' := 68) rfl ?_
                refine ed_pc (pc' := 68) rfl ?_
                refine lv_iload_n hx hb d_Mo_put_68 rfl (lv_at hl 1 rfl) ?_
                refine lv_sipush (v := iI 1200) hx hb d_Mo_put_69 (by decide +kernel) ?_
                refine ed_icmp_ge (tgt := 82) hx hb d_Mo_put_72 rfl (by omega) (by omega) (fun h_9 => ?_) (fun h_9 => ?_)
                · exact absurd h_9 (by omega)
                · skip
                  refine ed_pc (pc' := 75) rfl ?_
                  refine lv_aload_n hx hb d_Mo_put_75 rfl (lv_at hl 2 rfl) ?_
                  refine va_get (D := D) (ci := 4) (v := .int (iI (zl))) (C := R_Mo) (T := T_Mo) (N := 10) hx hb hts (fun w h => List.mem_cons_of_mem _ (in_Mo w h)) hown hK hP 0 rfl rfl 5 (by decide) (hts _ (List.mem_cons_of_mem _ tw_395)) (fun _ h9 => h9) rfl d_Mo_put_76 ?_
                  refine ed_if_eq (tgt := 86) hx hb d_Mo_put_79 rfl (by omega) (fun h_10 => ?_) (fun h_10 => ?_)
                  · skip
                    refine ed_pc (pc' := 86) rfl ?_
                    refine lv_iconst (v := iI 0) hx hb d_Mo_put_86 rfl ?_
                    refine va_put (D := D) (ci := 4) (v := .int (iI (0))) (ty := .int) (C := R_Mo) (T := T_Mo) (N := 10) hx hb hts (fun w h => List.mem_cons_of_mem _ (in_Mo w h)) y_Mo t_Mo n_Mo hown hK hP hD hS 0 rfl rfl 6 (by decide) (hts _ (List.mem_cons_of_mem _ tw_396)) (fun _ h9 => h9) rfl (by decide +kernel) rfl rfl (Nat.le_of_ble_eq_true rfl) d_Mo_put_87 (fun H locs hP hD hS => ?_)
                    have hP : va_P D ecl [(mo, .inr (4, [.ref nb, .ref un, .ref ov, .ref xx, .ref dc, .int (iI (zl)), .int (iI (0)), .long (ma), .int (iI (pw)), .int (iI (zk))])), (nb, .inr (3, [.ref nd, .int (iI (((dl X : Nat) : Int))), .int (iI (pt))])), (nd, .inl (cB, 4200, .inl d))] H := hP
                    have hD : va_D A [(mo, .inr (4, [.ref nb, .ref un, .ref ov, .ref xx, .ref dc, .int (iI (zl)), .int (iI (0)), .long (ma), .int (iI (pw)), .int (iI (zk))])), (nb, .inr (3, [.ref nd, .int (iI (((dl X : Nat) : Int))), .int (iI (pt))])), (nd, .inl (cB, 4200, .inl d))] := hD
                    refine ed_pc (pc' := 90) rfl ?_
                    refine lv_aload_n hx hb d_Mo_put_90 rfl (lv_at hl 2 rfl) ?_
                    refine va_get (D := D) (ci := 4) (v := .int (iI (0))) (C := R_Mo) (T := T_Mo) (N := 10) hx hb hts (fun w h => List.mem_cons_of_mem _ (in_Mo w h)) hown hK hP 0 rfl rfl 6 (by decide) (hts _ (List.mem_cons_of_mem _ tw_396)) (fun _ h9 => h9) rfl d_Mo_put_91 ?_
                    refine ed_if_le (tgt := 99) hx hb d_Mo_put_94 rfl (by omega) (fun h_11 => ?_) (fun h_11 => ?_)
                    · skip
                      refine ed_pc (pc' := 99) rfl ?_
                      refine lv_iload_n hx hb d_Mo_put_99 rfl (lv_at hl 4 rfl) ?_
                      refine ed_if_ne (tgt := 111) hx hb d_Mo_put_100 rfl (by omega) (fun h_12 => ?_) (fun h_12 => ?_)
                      · skip
                        refine ed_pc (pc' := 111) rfl ?_
                        refine lv_iload hx hb d_Mo_put_111 (lv_at hl 0 rfl) ?_
                        refine ed_if_eq (tgt := 127) hx hb d_Mo_put_113 rfl (by omega) (fun h_13 => ?_) (fun h_13 => ?_)
                        · skip
                          refine ed_pc (pc' := 127) rfl ?_
                          refine lv_aload_n hx hb d_Mo_put_127 rfl (lv_at hl 2 rfl) ?_
                          refine ed_pc (pc' := 128) rfl ?_
                          refine va_get (D := D) (ci := 4) (v := .ref nb) (C := R_Mo) (T := T_Mo) (N := 10) hx hb hts (fun w h => List.mem_cons_of_mem _ (in_Mo w h)) hown hK hP 0 rfl rfl 0 (by decide) (hts _ (List.mem_cons_of_mem _ tw_390)) (fun _ h9 => h9) rfl d_Mo_put_128 ?_
                          refine va_get (D := D) (ci := 3) (v := .int (iI (((dl X : Nat) : Int)))) (C := R_Ro) (T := T_Ro) (N := 3) hx hb hts (fun w h => List.mem_cons_of_mem _ (in_Ro w h)) hown hK hP 1 rfl rfl 1 (by decide) (hts _ (List.mem_cons_of_mem _ tw_362)) (fun _ h9 => h9) rfl d_Mo_put_131 ?_
                          refine lv_istore hx hb d_Mo_put_134 hl (by decide) rfl (fun ls hl => ?_)
                          have hl : lv_has ls 6 [(5, .int (iI (((dl X : Nat) : Int)))), (4, .int (iI (0))), (3, .int (iI ((k) + (pt)))), (0, .ref mo), (1, .int (iI (k))), (2, .int (iI (z)))] := hl
                          have hl := lv_sub hl [3, 5, 2, 0] rfl
                          exact L136 _ (dl X) (d) _ _ _ ls H locs rfl (by omega) (by omega) (rfl) (by rw [if_neg (by omega)]) (Nat.le_refl _) (by omega) (by rw [Nat.sub_self, Nat.pow_zero, Nat.mul_one]; exact hnm.2.2) hl hP hD hS
                        · exact absurd h_13 (by omega)
                      · skip
                        refine ed_pc (pc' := 103) rfl ?_
                        refine lv_aload_n hx hb d_Mo_put_103 rfl (lv_at hl 2 rfl) ?_
                        refine va_get (D := D) (ci := 4) (v := .ref nb) (C := R_Mo) (T := T_Mo) (N := 10) hx hb hts (fun w h => List.mem_cons_of_mem _ (in_Mo w h)) hown hK hP 0 rfl rfl 0 (by decide) (hts _ (List.mem_cons_of_mem _ tw_390)) (fun _ h9 => h9) rfl d_Mo_put_104 ?_
                        refine va_get (D := D) (ci := 3) (v := .int (iI (((dl X : Nat) : Int)))) (C := R_Ro) (T := T_Ro) (N := 3) hx hb hts (fun w h => List.mem_cons_of_mem _ (in_Ro w h)) hown hK hP 1 rfl rfl 1 (by decide) (hts _ (List.mem_cons_of_mem _ tw_362)) (fun _ h9 => h9) rfl d_Mo_put_107 ?_
                        exact W.iret (v := (iI (((dl X : Nat) : Int)))) hx hb hr (fun t9 ht9 hW9 => ⟨⟨(iI (((dl X : Nat) : Int))), [(mo, .inr (4, [.ref nb, .ref un, .ref ov, .ref xx, .ref dc, .int (iI (zl)), .int (iI (0)), .long (ma), .int (iI (pw)), .int (iI (zk))])), (nb, .inr (3, [.ref nd, .int (iI (((dl X : Nat) : Int))), .int (iI (pt))])), (nd, .inl (cB, 4200, .inl d))], rfl, ⟨d, X, pt, rfl, hnm, Or.inl ⟨by omega, rfl, rfl⟩, rfl⟩, by rw [ht9]; exact hP, hD⟩, hS.F ht9⟩) hS.2.2 d_Mo_put_110
                    · exact absurd h_11 (by omega)
                  · exact absurd h_10 (by omega)
  · skip
    refine ed_pc (pc' := 20) rfl ?_
    refine lv_iconst (v := iI 1) hx hb d_Mo_put_20 rfl ?_
    refine lv_goto (tgt := 25) hx hb d_Mo_put_21 rfl ?_
    refine lv_istore hx hb d_Mo_put_25 hl (by decide) rfl (fun ls hl => ?_)
    have hl : lv_has ls 6 [(4, .int (iI (1))), (3, .int (iI ((k) + (pt)))), (0, .ref mo), (1, .int (iI (k))), (2, .int (iI (z)))] := hl
    refine lv_aload_n hx hb d_Mo_put_27 rfl (lv_at hl 2 rfl) ?_
    refine lv_iload_n hx hb d_Mo_put_28 rfl (lv_at hl 4 rfl) ?_
    refine ed_pc (pc' := 29) rfl ?_
    refine ed_if_lt (tgt := 82) hx hb d_Mo_put_29 rfl (by omega) (fun h_14 => ?_) (fun h_14 => ?_)
    · exact absurd h_14 (by omega)
    · skip
      refine ed_pc (pc' := 32) rfl ?_
      refine lv_iload_n hx hb d_Mo_put_32 rfl (lv_at hl 4 rfl) ?_
      refine lv_bipush (v := iI 9) hx hb d_Mo_put_33 (by decide +kernel) ?_
      refine ed_icmp_gt (tgt := 82) hx hb d_Mo_put_35 rfl (by omega) (by omega) (fun h_15 => ?_) (fun h_15 => ?_)
      · exact absurd h_15 (by omega)
      · skip
        refine ed_pc (pc' := 38) rfl ?_
        refine lv_iload_n hx hb d_Mo_put_38 rfl (lv_at hl 3 rfl) ?_
        refine lv_sipush (v := iI (-400)) hx hb d_Mo_put_39 (by decide +kernel) ?_
        refine ed_icmp_lt (tgt := 82) hx hb d_Mo_put_42 rfl (by omega) (by omega) (fun h_16 => ?_) (fun h_16 => ?_)
        · exact absurd h_16 (by omega)
        · skip
          refine ed_pc (pc' := 45) rfl ?_
          refine lv_iload_n hx hb d_Mo_put_45 rfl (lv_at hl 3 rfl) ?_
          refine ed_pc (pc' := 46) rfl ?_
          refine lv_sipush (v := iI 400) hx hb d_Mo_put_46 (by decide +kernel) ?_
          refine ed_icmp_gt (tgt := 82) hx hb d_Mo_put_49 rfl (by omega) (by omega) (fun h_17 => ?_) (fun h_17 => ?_)
          · exact absurd h_17 (by omega)
          · skip
            refine ed_pc (pc' := 52) rfl ?_
            refine lv_iload hx hb d_Mo_put_52 (lv_at hl 0 rfl) ?_
            refine ed_if_ne (tgt := 75) hx hb d_Mo_put_54 rfl (by omega) (fun h_18 => ?_) (fun h_18 => ?_)
            · skip
              refine ed_pc (pc' := 75) rfl ?_
              refine lv_aload_n hx hb d_Mo_put_75 rfl (lv_at hl 2 rfl) ?_
              refine va_get (D := D) (ci := 4) (v := .int (iI (zl))) (C := R_Mo) (T := T_Mo) (N := 10) hx hb hts (fun w h => List.mem_cons_of_mem _ (in_Mo w h)) hown hK hP 0 rfl rfl 5 (by decide) (hts _ (List.mem_cons_of_mem _ tw_395)) (fun _ h9 => h9) rfl d_Mo_put_76 ?_
              refine ed_if_eq (tgt := 86) hx hb d_Mo_put_79 rfl (by omega) (fun h_19 => ?_) (fun h_19 => ?_)
              · skip
                refine ed_pc (pc' := 86) rfl ?_
                refine lv_iconst (v := iI 0) hx hb d_Mo_put_86 rfl ?_
                refine ed_pc (pc' := 87) rfl ?_
                refine va_put (D := D) (ci := 4) (v := .int (iI (0))) (ty := .int) (C := R_Mo) (T := T_Mo) (N := 10) hx hb hts (fun w h => List.mem_cons_of_mem _ (in_Mo w h)) y_Mo t_Mo n_Mo hown hK hP hD hS 0 rfl rfl 6 (by decide) (hts _ (List.mem_cons_of_mem _ tw_396)) (fun _ h9 => h9) rfl (by decide +kernel) rfl rfl (Nat.le_of_ble_eq_true rfl) d_Mo_put_87 (fun H locs hP hD hS => ?_)
                have hP : va_P D ecl [(mo, .inr (4, [.ref nb, .ref un, .ref ov, .ref xx, .ref dc, .int (iI (zl)), .int (iI (0)), .long (ma), .int (iI (pw)), .int (iI (zk))])), (nb, .inr (3, [.ref nd, .int (iI (((dl X : Nat) : Int))), .int (iI (pt))])), (nd, .inl (cB, 4200, .inl d))] H := hP
                have hD : va_D A [(mo, .inr (4, [.ref nb, .ref un, .ref ov, .ref xx, .ref dc, .int (iI (zl)), .int (iI (0)), .long (ma), .int (iI (pw)), .int (iI (zk))])), (nb, .inr (3, [.ref nd, .int (iI (((dl X : Nat) : Int))), .int (iI (pt))])), (nd, .inl (cB, 4200, .inl d))] := hD
                refine lv_aload_n hx hb d_Mo_put_90 rfl (lv_at hl 2 rfl) ?_
                refine va_get (D := D) (ci := 4) (v := .int (iI (0))) (C := R_Mo) (T := T_Mo) (N := 10) hx hb hts (fun w h => List.mem_cons_of_mem _ (in_Mo w h)) hown hK hP 0 rfl rfl 6 (by decide) (hts _ (List.mem_cons_of_mem _ tw_396)) (fun _ h9 => h9) rfl d_Mo_put_91 ?_
                refine ed_if_le (tgt := 99) hx hb d_Mo_put_94 rfl (by omega) (fun h_20 => ?_) (fun h_20 => ?_)
                · skip
                  refine ed_pc (pc' := 99) rfl ?_
                  refine lv_iload_n hx hb d_Mo_put_99 rfl (lv_at hl 4 rfl) ?_
                  refine ed_if_ne (tgt := 111) hx hb d_Mo_put_100 rfl (by omega) (fun h_21 => ?_) (fun h_21 => ?_)
                  · skip
                    refine ed_pc (pc' := 111) rfl ?_
                    refine lv_iload hx hb d_Mo_put_111 (lv_at hl 0 rfl) ?_
                    refine ed_if_eq (tgt := 127) hx hb d_Mo_put_113 rfl (by omega) (fun h_22 => ?_) (fun h_22 => ?_)
                    · exact absurd h_22 (by omega)
                    · skip
                      refine ed_pc (pc' := 116) rfl ?_
                      refine ed_pc (pc' := 116) rfl ?_
                      refine lv_aload_n hx hb d_Mo_put_116 rfl (lv_at hl 2 rfl) ?_
                      refine va_get (D := D) (ci := 4) (v := .ref nb) (C := R_Mo) (T := T_Mo) (N := 10) hx hb hts (fun w h => List.mem_cons_of_mem _ (in_Mo w h)) hown hK hP 0 rfl rfl 0 (by decide) (hts _ (List.mem_cons_of_mem _ tw_390)) (fun _ h9 => h9) rfl d_Mo_put_117 ?_
                      refine lv_iload_n hx hb d_Mo_put_120 rfl (lv_at hl 3 rfl) ?_
                      refine ed_ineg hx hb d_Mo_put_121 ?_
                      refine va_put (D := D) (ci := 3) (v := .int (iI (-(k)))) (ty := .int) (C := R_Ro) (T := T_Ro) (N := 3) hx hb hts (fun w h => List.mem_cons_of_mem _ (in_Ro w h)) y_Ro t_Ro n_Ro hown hK hP hD hS 1 rfl rfl 2 (by decide) (hts _ (List.mem_cons_of_mem _ tw_364)) (fun _ h9 => h9) rfl (by decide +kernel) rfl rfl (Nat.le_of_ble_eq_true rfl) d_Mo_put_122 (fun H locs hP hD hS => ?_)
                      have hP : va_P D ecl [(mo, .inr (4, [.ref nb, .ref un, .ref ov, .ref xx, .ref dc, .int (iI (zl)), .int (iI (0)), .long (ma), .int (iI (pw)), .int (iI (zk))])), (nb, .inr (3, [.ref nd, .int (iI (((dl X : Nat) : Int))), .int (iI (-(k)))])), (nd, .inl (cB, 4200, .inl d))] H := hP
                      have hD : va_D A [(mo, .inr (4, [.ref nb, .ref un, .ref ov, .ref xx, .ref dc, .int (iI (zl)), .int (iI (0)), .long (ma), .int (iI (pw)), .int (iI (zk))])), (nb, .inr (3, [.ref nd, .int (iI (((dl X : Nat) : Int))), .int (iI (-(k)))])), (nd, .inl (cB, 4200, .inl d))] := hD
                      refine lv_iconst (v := iI 0) hx hb d_Mo_put_125 rfl ?_
                      refine lv_istore_n hx hb d_Mo_put_126 rfl hl (by decide) rfl (fun ls hl => ?_)
                      have hl : lv_has ls 6 [(3, .int (iI (0))), (4, .int (iI (1))), (0, .ref mo), (1, .int (iI (k))), (2, .int (iI (z)))] := hl
                      refine lv_aload_n hx hb d_Mo_put_127 rfl (lv_at hl 2 rfl) ?_
                      refine ed_pc (pc' := 128) rfl ?_
                      refine va_get (D := D) (ci := 4) (v := .ref nb) (C := R_Mo) (T := T_Mo) (N := 10) hx hb hts (fun w h => List.mem_cons_of_mem _ (in_Mo w h)) hown hK hP 0 rfl rfl 0 (by decide) (hts _ (List.mem_cons_of_mem _ tw_390)) (fun _ h9 => h9) rfl d_Mo_put_128 ?_
                      refine va_get (D := D) (ci := 3) (v := .int (iI (((dl X : Nat) : Int)))) (C := R_Ro) (T := T_Ro) (N := 3) hx hb hts (fun w h => List.mem_cons_of_mem _ (in_Ro w h)) hown hK hP 1 rfl rfl 1 (by decide) (hts _ (List.mem_cons_of_mem _ tw_362)) (fun _ h9 => h9) rfl d_Mo_put_131 ?_
                      refine lv_istore hx hb d_Mo_put_134 hl (by decide) rfl (fun ls hl => ?_)
                      have hl : lv_has ls 6 [(5, .int (iI (((dl X : Nat) : Int)))), (3, .int (iI (0))), (4, .int (iI (1))), (0, .ref mo), (1, .int (iI (k))), (2, .int (iI (z)))] := hl
                      have hl := lv_sub hl [3, 5, 1, 0] rfl
                      exact L136 _ (dl X) (d) _ _ _ ls H locs rfl (by omega) (by omega) (rfl) (by rw [if_pos (by omega)]) (Nat.le_refl _) (by omega) (by rw [Nat.sub_self, Nat.pow_zero, Nat.mul_one]; exact hnm.2.2) hl hP hD hS
                  · skip
                    refine ed_pc (pc' := 103) rfl ?_
                    refine lv_aload_n hx hb d_Mo_put_103 rfl (lv_at hl 2 rfl) ?_
                    refine va_get (D := D) (ci := 4) (v := .ref nb) (C := R_Mo) (T := T_Mo) (N := 10) hx hb hts (fun w h => List.mem_cons_of_mem _ (in_Mo w h)) hown hK hP 0 rfl rfl 0 (by decide) (hts _ (List.mem_cons_of_mem _ tw_390)) (fun _ h9 => h9) rfl d_Mo_put_104 ?_
                    refine ed_pc (pc' := 107) rfl ?_
                    refine va_get (D := D) (ci := 3) (v := .int (iI (((dl X : Nat) : Int)))) (C := R_Ro) (T := T_Ro) (N := 3) hx hb hts (fun w h => List.mem_cons_of_mem _ (in_Ro w h)) hown hK hP 1 rfl rfl 1 (by decide) (hts _ (List.mem_cons_of_mem _ tw_362)) (fun _ h9 => h9) rfl d_Mo_put_107 ?_
                    exact W.iret (v := (iI (((dl X : Nat) : Int)))) hx hb hr (fun t9 ht9 hW9 => ⟨⟨(iI (((dl X : Nat) : Int))), [(mo, .inr (4, [.ref nb, .ref un, .ref ov, .ref xx, .ref dc, .int (iI (zl)), .int (iI (0)), .long (ma), .int (iI (pw)), .int (iI (zk))])), (nb, .inr (3, [.ref nd, .int (iI (((dl X : Nat) : Int))), .int (iI (pt))])), (nd, .inl (cB, 4200, .inl d))], rfl, ⟨d, X, pt, rfl, hnm, Or.inl ⟨by omega, rfl, rfl⟩, rfl⟩, by rw [ht9]; exact hP, hD⟩, hS.F ht9⟩) hS.2.2 d_Mo_put_110
                · exact absurd h_20 (by omega)
              · exact absurd h_19 (by omega)
            · exact absurd h_18 (by omega)
set_option maxHeartbeats 4000000 in
set_option maxRecDepth 100000 in
theorem c_Mo_put_no (l : Launch) (D : va_G) (cB cI cJ : ClassId) (t5 : Nat) (ad : Nat → Nat) (mo nb nd un ov xx dc : Nat) (d : Nat → Int32) (pt zl th pw zk : Int) (ma : Int64) (X : Nat) (k z : Int) (hX12 : dl X ≤ 1200) (hpt : -9000000 ≤ pt ∧ pt ≤ 9000000) (hk : iR k) (hd : iR z) (hzl : zl = 0 ∨ zl = 1) (hm : z < 0 ∨ 9 < z ∨ k < -400 ∨ 400 < k ∨ zl = 1 ∨ (¬ X = 0 ∧ (pt + k < ((dl X : Nat) : Int) ∨ 1200 ≤ pt + k))) : c_I l m_Mo_put (Cond.code m_Mo_put b_Mo_put 6 (some .int) :: gw) (rm_ 0 0) (eX t5 ad) D ecl (tyS cB cI cJ) [.ref mo, .int (iI (k)), .int (iI (z))] [(mo, .inr (4, [.ref nb, .ref un, .ref ov, .ref xx, .ref dc, .int (iI (zl)), .int (iI (th)), .long (ma), .int (iI (pw)), .int (iI (zk))])), (nb, .inr (3, [.ref nd, .int (iI (((dl X : Nat) : Int))), .int (iI (pt))])), (nd, .inl (cB, 4200, .inl d))] (fun r u => r = iI 0 ∧ u = [(mo, .inr (4, [.ref nb, .ref un, .ref ov, .ref xx, .ref dc, .int (iI (zl)), .int (iI (1)), .long (ma), .int (iI (pw)), .int (iI (zk))])), (nb, .inr (3, [.ref nd, .int (iI (((dl X : Nat) : Int))), .int (iI (pt))])), (nd, .inl (cB, 4200, .inl d))]) 0 0 := by
  intro sz0
  refine Met.ofW (cc := b_Mo_put) (maxL := 6) (ret := (some .int)) (by decide) rfl ?_
  intro p e s m args below meth c s₁ B hml hv
  obtain ⟨rfl, hsz, hP, hK, hD0, hE⟩ := hv
  have hx := B.exec
  have hb := B.bytes
  have hr := B.returns
  have hts := atoms_spec (ws := Cond.code m_Mo_put b_Mo_put 6 (some .int) :: gw) B.pre
  have hown : s.vm.findClass R_Mo = some m.cls := findClass_of_methodNamed B.named
  have hlocks := B.notSynchronized
  subst hsz
  have hD := hD0.self (sz := s.heap.size)
  generalize hAe : va_A [(mo, .inr (4, [.ref nb, .ref un, .ref ov, .ref xx, .ref dc, .int (iI (zl)), .int (iI (th)), .long (ma), .int (iI (pw)), .int (iI (zk))])), (nb, .inr (3, [.ref nd, .int (iI (((dl X : Nat) : Int))), .int (iI (pt))])), (nd, .inl (cB, 4200, .inl d))] s.heap.size = A at hD hE ⊢
  have hA : ∀ q : Nat, s.heap.size ≤ q → A q := fun q h => by rw [← hAe]; exact Or.inr h
  have hS : va_S A s.heap s.heap [] := va_S.rf
  have hl := lv_entry ([.ref mo, .int (iI (k)), .int (iI (z))]) (n := 6) (Nat.le_of_ble_eq_true rfl)
  rw [lg_entry_eq]
  generalize (lg_sl ([.ref mo, .int (iI (k)), .int (iI (z))]) ++ List.replicate (6 - (lg_sl ([.ref mo, .int (iI (k)), .int (iI (z))])).length) Slot.unset).toArray = ls at hl ⊢
  have hl : lv_has ls 6 [(0, .ref mo), (1, .int (iI (k))), (2, .int (iI (z)))] := hl
  have hd0 : dl X = 0 ↔ X = 0 := ⟨fun y => dl_eq0 y, fun y => by rw [y, dl_0]⟩
  refine lv_iload_n hx hb d_Mo_put_0 rfl (lv_at hl 1 rfl) ?_
  refine lv_aload_n hx hb d_Mo_put_1 rfl (lv_at hl 0 rfl) ?_
  refine va_get (D := D) (ci := 4) (v := .ref nb) (C := R_Mo) (T := T_Mo) (N := 10) hx hb hts (fun w h => List.mem_cons_of_mem _ (in_Mo w h)) hown hK hP 0 rfl rfl 0 (by decide) (hts _ (List.mem_cons_of_mem _ tw_390)) (fun _ h9 => h9) rfl d_Mo_put_2 ?_
  refine va_get (D := D) (ci := 3) (v := .int (iI (pt))) (C := R_Ro) (T := T_Ro) (N := 3) hx hb hts (fun w h => List.mem_cons_of_mem _ (in_Ro w h)) hown hK hP 1 rfl rfl 2 (by decide) (hts _ (List.mem_cons_of_mem _ tw_364)) (fun _ h9 => h9) rfl d_Mo_put_5 ?_
  refine ed_iadd hx hb d_Mo_put_8 ?_
  refine lv_istore_n hx hb d_Mo_put_9 rfl hl (by decide) rfl (fun ls hl => ?_)
  have hl : lv_has ls 6 [(3, .int (iI ((k) + (pt)))), (0, .ref mo), (1, .int (iI (k))), (2, .int (iI (z)))] := hl
  refine lv_aload_n hx hb d_Mo_put_10 rfl (lv_at hl 1 rfl) ?_
  refine ed_pc (pc' := 11) rfl ?_
  refine va_get (D := D) (ci := 4) (v := .ref nb) (C := R_Mo) (T := T_Mo) (N := 10) hx hb hts (fun w h => List.mem_cons_of_mem _ (in_Mo w h)) hown hK hP 0 rfl rfl 0 (by decide) (hts _ (List.mem_cons_of_mem _ tw_390)) (fun _ h9 => h9) rfl d_Mo_put_11 ?_
  refine va_get (D := D) (ci := 3) (v := .int (iI (((dl X : Nat) : Int)))) (C := R_Ro) (T := T_Ro) (N := 3) hx hb hts (fun w h => List.mem_cons_of_mem _ (in_Ro w h)) hown hK hP 1 rfl rfl 1 (by decide) (hts _ (List.mem_cons_of_mem _ tw_362)) (fun _ h9 => h9) rfl d_Mo_put_14 ?_
  refine ed_if_ne (tgt := 24) hx hb d_Mo_put_17 rfl (by omega) (fun h_1 => ?_) (fun h_1 => ?_)
  · skip
    refine ed_pc (pc' := 24) rfl ?_
    refine lv_iconst (v := iI 0) hx hb d_Mo_put_24 rfl ?_
    refine lv_istore hx hb d_Mo_put_25 hl (by decide) rfl (fun ls hl => ?_)
    have hl : lv_has ls 6 [(4, .int (iI (0))), (3, .int (iI ((k) + (pt)))), (0, .ref mo), (1, .int (iI (k))), (2, .int (iI (z)))] := hl
    refine lv_aload_n hx hb d_Mo_put_27 rfl (lv_at hl 2 rfl) ?_
    refine lv_iload_n hx hb d_Mo_put_28 rfl (lv_at hl 4 rfl) ?_
    refine ed_if_lt (tgt := 82) hx hb d_Mo_put_29 rfl (by omega) (fun h_2 => ?_) (fun h_2 => ?_)
    · skip
      refine ed_pc (pc' := 82) rfl ?_
      refine ed_pc (pc' := 82) rfl ?_
      refine lv_iconst (v := iI 1) hx hb d_Mo_put_82 rfl ?_
      refine lv_goto (tgt := 87) hx hb d_Mo_put_83 rfl ?_
      refine va_put (D := D) (ci := 4) (v := .int (iI (1))) (ty := .int) (C := R_Mo) (T := T_Mo) (N := 10) hx hb hts (fun w h => List.mem_cons_of_mem _ (in_Mo w h)) y_Mo t_Mo n_Mo hown hK hP hD hS 0 rfl rfl 6 (by decide) (hts _ (List.mem_cons_of_mem _ tw_396)) (fun _ h9 => h9) rfl (by decide +kernel) rfl rfl (Nat.le_of_ble_eq_true rfl) d_Mo_put_87 (fun H locs hP hD hS => ?_)
      have hP : va_P D ecl [(mo, .inr (4, [.ref nb, .ref un, .ref ov, .ref xx, .ref dc, .int (iI (zl)), .int (iI (1)), .long (ma), .int (iI (pw)), .int (iI (zk))])), (nb, .inr (3, [.ref nd, .int (iI (((dl X : Nat) : Int))), .int (iI (pt))])), (nd, .inl (cB, 4200, .inl d))] H := hP
      have hD : va_D A [(mo, .inr (4, [.ref nb, .ref un, .ref ov, .ref xx, .ref dc, .int (iI (zl)), .int (iI (1)), .long (ma), .int (iI (pw)), .int (iI (zk))])), (nb, .inr (3, [.ref nd, .int (iI (((dl X : Nat) : Int))), .int (iI (pt))])), (nd, .inl (cB, 4200, .inl d))] := hD
      refine lv_aload_n hx hb d_Mo_put_90 rfl (lv_at hl 2 rfl) ?_
      refine va_get (D := D) (ci := 4) (v := .int (iI (1))) (C := R_Mo) (T := T_Mo) (N := 10) hx hb hts (fun w h => List.mem_cons_of_mem _ (in_Mo w h)) hown hK hP 0 rfl rfl 6 (by decide) (hts _ (List.mem_cons_of_mem _ tw_396)) (fun _ h9 => h9) rfl d_Mo_put_91 ?_
      refine ed_if_le (tgt := 99) hx hb d_Mo_put_94 rfl (by omega) (fun h_3 => ?_) (fun h_3 => ?_)
      · exact absurd h_3 (by omega)
      · skip
        refine ed_pc (pc' := 97) rfl ?_
        refine lv_iconst (v := iI 0) hx hb d_Mo_put_97 rfl ?_
        exact W.iret (v := (iI (0))) hx hb hr (fun t9 ht9 hW9 => ⟨⟨(iI (0)), [(mo, .inr (4, [.ref nb, .ref un, .ref ov, .ref xx, .ref dc, .int (iI (zl)), .int (iI (1)), .long (ma), .int (iI (pw)), .int (iI (zk))])), (nb, .inr (3, [.ref nd, .int (iI (((dl X : Nat) : Int))), .int (iI (pt))])), (nd, .inl (cB, 4200, .inl d))], rfl, ⟨rfl, rfl⟩, by rw [ht9]; exact hP, hD⟩, hS.F ht9⟩) hS.2.2 d_Mo_put_98
    · skip
      refine ed_pc (pc' := 32) rfl ?_
      refine ed_pc (pc' := 32) rfl ?_
      refine lv_iload_n hx hb d_Mo_put_32 rfl (lv_at hl 4 rfl) ?_
      refine lv_bipush (v := iI 9) hx hb d_Mo_put_33 (by decide +kernel) ?_
      refine ed_icmp_gt (tgt := 82) hx hb d_Mo_put_35 rfl (by omega) (by omega) (fun h_4 => ?_) (fun h_4 => ?_)
      · skip
        refine ed_pc (pc' := 82) rfl ?_
        refine lv_iconst (v := iI 1) hx hb d_Mo_put_82 rfl ?_
        refine lv_goto (tgt := 87) hx hb d_Mo_put_83 rfl ?_
        refine va_put (D := D) (ci := 4) (v := .int (iI (1))) (ty := .int) (C := R_Mo) (T := T_Mo) (N := 10) hx hb hts (fun w h => List.mem_cons_of_mem _ (in_Mo w h)) y_Mo t_Mo n_Mo hown hK hP hD hS 0 rfl rfl 6 (by decide) (hts _ (List.mem_cons_of_mem _ tw_396)) (fun _ h9 => h9) rfl (by decide +kernel) rfl rfl (Nat.le_of_ble_eq_true rfl) d_Mo_put_87 (fun H locs hP hD hS => ?_)
        have hP : va_P D ecl [(mo, .inr (4, [.ref nb, .ref un, .ref ov, .ref xx, .ref dc, .int (iI (zl)), .int (iI (1)), .long (ma), .int (iI (pw)), .int (iI (zk))])), (nb, .inr (3, [.ref nd, .int (iI (((dl X : Nat) : Int))), .int (iI (pt))])), (nd, .inl (cB, 4200, .inl d))] H := hP
        have hD : va_D A [(mo, .inr (4, [.ref nb, .ref un, .ref ov, .ref xx, .ref dc, .int (iI (zl)), .int (iI (1)), .long (ma), .int (iI (pw)), .int (iI (zk))])), (nb, .inr (3, [.ref nd, .int (iI (((dl X : Nat) : Int))), .int (iI (pt))])), (nd, .inl (cB, 4200, .inl d))] := hD
        refine lv_aload_n hx hb d_Mo_put_90 rfl (lv_at hl 2 rfl) ?_
        refine va_get (D := D) (ci := 4) (v := .int (iI (1))) (C := R_Mo) (T := T_Mo) (N := 10) hx hb hts (fun w h => List.mem_cons_of_mem _ (in_Mo w h)) hown hK hP 0 rfl rfl 6 (by decide) (hts _ (List.mem_cons_of_mem _ tw_396)) (fun _ h9 => h9) rfl d_Mo_put_91 ?_
        refine ed_pc (pc' := 94) rfl ?_
        refine ed_if_le (tgt := 99) hx hb d_Mo_put_94 rfl (by omega) (fun h_5 => ?_) (fun h_5 => ?_)
        · exact absurd h_5 (by omega)
        · skip
          refine ed_pc (pc' := 97) rfl ?_
          refine lv_iconst (v := iI 0) hx hb d_Mo_put_97 rfl ?_
          exact W.iret (v := (iI (0))) hx hb hr (fun t9 ht9 hW9 => ⟨⟨(iI (0)), [(mo, .inr (4, [.ref nb, .ref un, .ref ov, .ref xx, .ref dc, .int (iI (zl)), .int (iI (1)), .long (ma), .int (iI (pw)), .int (iI (zk))])), (nb, .inr (3, [.ref nd, .int (iI (((dl X : Nat) : Int))), .int (iI (pt))])), (nd, .inl (cB, 4200, .inl d))], rfl, ⟨rfl, rfl⟩, by rw [ht9]; exact hP, hD⟩, hS.F ht9⟩) hS.2.2 d_Mo_put_98
      · skip
        refine ed_pc (pc' := 38) rfl ?_
        refine lv_iload_n hx hb d_Mo_put_38 rfl (lv_at hl 3 rfl) ?_
        refine lv_sipush (v := iI (-400)) hx hb d_Mo_put_39 (by decide +kernel) ?_
        refine ed_icmp_lt (tgt := 82) hx hb d_Mo_put_42 rfl (by omega) (by omega) (fun h_6 => ?_) (fun h_6 => ?_)
        · skip
          refine ed_pc (pc' := 82) rfl ?_
          refine lv_iconst (v := iI 1) hx hb d_Mo_put_82 rfl ?_
          refine lv_goto (tgt := 87) hx hb d_Mo_put_83 rfl ?_
          refine ed_pc (pc' := 87) rfl ?_
          refine va_put (D := D) (ci := 4) (v := .int (iI (1))) (ty := .int) (C := R_Mo) (T := T_Mo) (N := 10) hx hb hts (fun w h => List.mem_cons_of_mem _ (in_Mo w h)) y_Mo t_Mo n_Mo hown hK hP hD hS 0 rfl rfl 6 (by decide) (hts _ (List.mem_cons_of_mem _ tw_396)) (fun _ h9 => h9) rfl (by decide +kernel) rfl rfl (Nat.le_of_ble_eq_true rfl) d_Mo_put_87 (fun H locs hP hD hS => ?_)
          have hP : va_P D ecl [(mo, .inr (4, [.ref nb, .ref un, .ref ov, .ref xx, .ref dc, .int (iI (zl)), .int (iI (1)), .long (ma), .int (iI (pw)), .int (iI (zk))])), (nb, .inr (3, [.ref nd, .int (iI (((dl X : Nat) : Int))), .int (iI (pt))])), (nd, .inl (cB, 4200, .inl d))] H := hP
          have hD : va_D A [(mo, .inr (4, [.ref nb, .ref un, .ref ov, .ref xx, .ref dc, .int (iI (zl)), .int (iI (1)), .long (ma), .int (iI (pw)), .int (iI (zk))])), (nb, .inr (3, [.ref nd, .int (iI (((dl X : Nat) : Int))), .int (iI (pt))])), (nd, .inl (cB, 4200, .inl d))] := hD
          refine lv_aload_n hx hb d_Mo_put_90 rfl (lv_at hl 2 rfl) ?_
          refine va_get (D := D) (ci := 4) (v := .int (iI (1))) (C := R_Mo) (T := T_Mo) (N := 10) hx hb hts (fun w h => List.mem_cons_of_mem _ (in_Mo w h)) hown hK hP 0 rfl rfl 6 (by decide) (hts _ (List.mem_cons_of_mem _ tw_396)) (fun _ h9 => h9) rfl d_Mo_put_91 ?_
          refine ed_if_le (tgt := 99) hx hb d_Mo_put_94 rfl (by omega) (fun h_7 => ?_) (fun h_7 => ?_)
          · exact absurd h_7 (by omega)
          · skip
            refine ed_pc (pc' := 97) rfl ?_
            refine lv_iconst (v := iI 0) hx hb d_Mo_put_97 rfl ?_
            exact W.iret (v := (iI (0))) hx hb hr (fun t9 ht9 hW9 => ⟨⟨(iI (0)), [(mo, .inr (4, [.ref nb, .ref un, .ref ov, .ref xx, .ref dc, .int (iI (zl)), .int (iI (1)), .long (ma), .int (iI (pw)), .int (iI (zk))])), (nb, .inr (3, [.ref nd, .int (iI (((dl X : Nat) : Int))), .int (iI (pt))])), (nd, .inl (cB, 4200, .inl d))], rfl, ⟨rfl, rfl⟩, by rw [ht9]; exact hP, hD⟩, hS.F ht9⟩) hS.2.2 d_Mo_put_98
        · skip
          refine ed_pc (pc' := 45) rfl ?_
          refine lv_iload_n hx hb d_Mo_put_45 rfl (lv_at hl 3 rfl) ?_
          refine lv_sipush (v := iI 400) hx hb d_Mo_put_46 (by decide +kernel) ?_
          refine ed_pc (pc' := 49) rfl ?_
          refine ed_icmp_gt (tgt := 82) hx hb d_Mo_put_49 rfl (by omega) (by omega) (fun h_8 => ?_) (fun h_8 => ?_)
          · skip
            refine ed_pc (pc' := 82) rfl ?_
            refine lv_iconst (v := iI 1) hx hb d_Mo_put_82 rfl ?_
            refine lv_goto (tgt := 87) hx hb d_Mo_put_83 rfl ?_
            refine va_put (D := D) (ci := 4) (v := .int (iI (1))) (ty := .int) (C := R_Mo) (T := T_Mo) (N := 10) hx hb hts (fun w h => List.mem_cons_of_mem _ (in_Mo w h)) y_Mo t_Mo n_Mo hown hK hP hD hS 0 rfl rfl 6 (by decide) (hts _ (List.mem_cons_of_mem _ tw_396)) (fun _ h9 => h9) rfl (by decide +kernel) rfl rfl (Nat.le_of_ble_eq_true rfl) d_Mo_put_87 (fun H locs hP hD hS => ?_)
            have hP : va_P D ecl [(mo, .inr (4, [.ref nb, .ref un, .ref ov, .ref xx, .ref dc, .int (iI (zl)), .int (iI (1)), .long (ma), .int (iI (pw)), .int (iI (zk))])), (nb, .inr (3, [.ref nd, .int (iI (((dl X : Nat) : Int))), .int (iI (pt))])), (nd, .inl (cB, 4200, .inl d))] H := hP
            have hD : va_D A [(mo, .inr (4, [.ref nb, .ref un, .ref ov, .ref xx, .ref dc, .int (iI (zl)), .int (iI (1)), .long (ma), .int (iI (pw)), .int (iI (zk))])), (nb, .inr (3, [.ref nd, .int (iI (((dl X : Nat) : Int))), .int (iI (pt))])), (nd, .inl (cB, 4200, .inl d))] := hD
            refine lv_aload_n hx hb d_Mo_put_90 rfl (lv_at hl 2 rfl) ?_
            refine va_get (D := D) (ci := 4) (v := .int (iI (1))) (C := R_Mo) (T := T_Mo) (N := 10) hx hb hts (fun w h => List.mem_cons_of_mem _ (in_Mo w h)) hown hK hP 0 rfl rfl 6 (by decide) (hts _ (List.mem_cons_of_mem _ tw_396)) (fun _ h9 => h9) rfl d_Mo_put_91 ?_
            refine ed_if_le (tgt := 99) hx hb d_Mo_put_94 rfl (by omega) (fun h_9 => ?_) (fun h_9 => ?_)
            · exact absurd h_9 (by omega)
            · skip
              refine ed_pc (pc' := 97) rfl ?_
              refine lv_iconst (v := iI 0) hx hb d_Mo_put_97 rfl ?_
              exact W.iret (v := (iI (0))) hx hb hr (fun t9 ht9 hW9 => ⟨⟨(iI (0)), [(mo, .inr (4, [.ref nb, .ref un, .ref ov, .ref xx, .ref dc, .int (iI (zl)), .int (iI (1)), .long (ma), .int (iI (pw)), .int (iI (zk))])), (nb, .inr (3, [.ref nd, .int (iI (((dl X : Nat) : Int))), .int (iI (pt))])), (nd, .inl (cB, 4200, .inl d))], rfl, ⟨rfl, rfl⟩, by rw [ht9]; exact hP, hD⟩, hS.F ht9⟩) hS.2.2 d_Mo_put_98
          · skip
            refine ed_pc (pc' := 52) rfl ?_
            refine lv_iload hx hb d_Mo_put_52 (lv_at hl 0 rfl) ?_
            refine ed_if_ne (tgt := 75) hx hb d_Mo_put_54 rfl (by omega) (fun h_10 => ?_) (fun h_10 => ?_)
            · exact absurd h_10 (by omega)
            · skip
              refine ed_pc (pc' := 57) rfl ?_
              refine lv_iload_n hx hb d_Mo_put_57 rfl (lv_at hl 1 rfl) ?_
              refine lv_aload_n hx hb d_Mo_put_58 rfl (lv_at hl 2 rfl) ?_
              refine va_get (D := D) (ci := 4) (v := .ref nb) (C := R_Mo) (T := T_Mo) (N := 10) hx hb hts (fun w h => List.mem_cons_of_mem _ (in_Mo w h)) hown hK hP 0 rfl rfl 0 (by decide) (hts _ (List.mem_cons_of_mem _ tw_390)) (fun _ h9 => h9) rfl d_Mo_put_59 ?_
              refine va_get (D := D) (ci := 3) (v := .int (iI (((dl X : Nat) : Int)))) (C := R_Ro) (T := T_Ro) (N := 3) hx hb hts (fun w h => List.mem_cons_of_mem _ (in_Ro w h)) hown hK hP 1 rfl rfl 1 (by decide) (hts _ (List.mem_cons_of_mem _ tw_362)) (fun _ h9 => h9) rfl d_Mo_put_62 ?_
              refine ed_icmp_lt (tgt := 82) hx hb d_Mo_put_65 rfl (by omega) (by omega) (fun h_11 => ?_) (fun h_11 => ?_)
              · skip
                refine ed_pc (pc' := 82) rfl ?_
                refine ed_pc (pc' := 82) rfl ?_
                refine lv_iconst (v := iI 1) hx hb d_Mo_put_82 rfl ?_
                refine lv_goto (tgt := 87) hx hb d_Mo_put_83 rfl ?_
                refine va_put (D := D) (ci := 4) (v := .int (iI (1))) (ty := .int) (C := R_Mo) (T := T_Mo) (N := 10) hx hb hts (fun w h => List.mem_cons_of_mem _ (in_Mo w h)) y_Mo t_Mo n_Mo hown hK hP hD hS 0 rfl rfl 6 (by decide) (hts _ (List.mem_cons_of_mem _ tw_396)) (fun _ h9 => h9) rfl (by decide +kernel) rfl rfl (Nat.le_of_ble_eq_true rfl) d_Mo_put_87 (fun H locs hP hD hS => ?_)
                have hP : va_P D ecl [(mo, .inr (4, [.ref nb, .ref un, .ref ov, .ref xx, .ref dc, .int (iI (zl)), .int (iI (1)), .long (ma), .int (iI (pw)), .int (iI (zk))])), (nb, .inr (3, [.ref nd, .int (iI (((dl X : Nat) : Int))), .int (iI (pt))])), (nd, .inl (cB, 4200, .inl d))] H := hP
                have hD : va_D A [(mo, .inr (4, [.ref nb, .ref un, .ref ov, .ref xx, .ref dc, .int (iI (zl)), .int (iI (1)), .long (ma), .int (iI (pw)), .int (iI (zk))])), (nb, .inr (3, [.ref nd, .int (iI (((dl X : Nat) : Int))), .int (iI (pt))])), (nd, .inl (cB, 4200, .inl d))] := hD
                refine lv_aload_n hx hb d_Mo_put_90 rfl (lv_at hl 2 rfl) ?_
                refine va_get (D := D) (ci := 4) (v := .int (iI (1))) (C := R_Mo) (T := T_Mo) (N := 10) hx hb hts (fun w h => List.mem_cons_of_mem _ (in_Mo w h)) hown hK hP 0 rfl rfl 6 (by decide) (hts _ (List.mem_cons_of_mem _ tw_396)) (fun _ h9 => h9) rfl d_Mo_put_91 ?_
                refine ed_if_le (tgt := 99) hx hb d_Mo_put_94 rfl (by omega) (fun h_12 => ?_) (fun h_12 => ?_)
                · exact absurd h_12 (by omega)
                · skip
                  refine ed_pc (pc' := 97) rfl ?_
                  refine lv_iconst (v := iI 0) hx hb d_Mo_put_97 rfl ?_
                  exact W.iret (v := (iI (0))) hx hb hr (fun t9 ht9 hW9 => ⟨⟨(iI (0)), [(mo, .inr (4, [.ref nb, .ref un, .ref ov, .ref xx, .ref dc, .int (iI (zl)), .int (iI (1)), .long (ma), .int (iI (pw)), .int (iI (zk))])), (nb, .inr (3, [.ref nd, .int (iI (((dl X : Nat) : Int))), .int (iI (pt))])), (nd, .inl (cB, 4200, .inl d))], rfl, ⟨rfl, rfl⟩, by rw [ht9]; exact hP, hD⟩, hS.F ht9⟩) hS.2.2 d_Mo_put_98
              · skip
                refine ed_pc (pc' := 68) rfl ?_
                refine ed_pc (pc' := 68) rfl ?_
                refine lv_iload_n hx hb d_Mo_put_68 rfl (lv_at hl 1 rfl) ?_
                refine lv_sipush (v := iI 1200) hx hb d_Mo_put_69 (by decide +kernel) ?_
                refine ed_icmp_ge (tgt := 82) hx hb d_Mo_put_72 rfl (by omega) (by omega) (fun h_13 => ?_) (fun h_13 => ?_)
                · skip
                  refine ed_pc (pc' := 82) rfl ?_
                  refine lv_iconst (v := iI 1) hx hb d_Mo_put_82 rfl ?_
                  refine lv_goto (tgt := 87) hx hb d_Mo_put_83 rfl ?_
                  refine va_put (D := D) (ci := 4) (v := .int (iI (1))) (ty := .int) (C := R_Mo) (T := T_Mo) (N := 10) hx hb hts (fun w h => List.mem_cons_of_mem _ (in_Mo w h)) y_Mo t_Mo n_Mo hown hK hP hD hS 0 rfl rfl 6 (by decide) (hts _ (List.mem_cons_of_mem _ tw_396)) (fun _ h9 => h9) rfl (by decide +kernel) rfl rfl (Nat.le_of_ble_eq_true rfl) d_Mo_put_87 (fun H locs hP hD hS => ?_)
                  have hP : va_P D ecl [(mo, .inr (4, [.ref nb, .ref un, .ref ov, .ref xx, .ref dc, .int (iI (zl)), .int (iI (1)), .long (ma), .int (iI (pw)), .int (iI (zk))])), (nb, .inr (3, [.ref nd, .int (iI (((dl X : Nat) : Int))), .int (iI (pt))])), (nd, .inl (cB, 4200, .inl d))] H := hP
                  have hD : va_D A [(mo, .inr (4, [.ref nb, .ref un, .ref ov, .ref xx, .ref dc, .int (iI (zl)), .int (iI (1)), .long (ma), .int (iI (pw)), .int (iI (zk))])), (nb, .inr (3, [.ref nd, .int (iI (((dl X : Nat) : Int))), .int (iI (pt))])), (nd, .inl (cB, 4200, .inl d))] := hD
                  refine lv_aload_n hx hb d_Mo_put_90 rfl (lv_at hl 2 rfl) ?_
                  refine va_get (D := D) (ci := 4) (v := .int (iI (1))) (C := R_Mo) (T := T_Mo) (N := 10) hx hb hts (fun w h => List.mem_cons_of_mem _ (in_Mo w h)) hown hK hP 0 rfl rfl 6 (by decide) (hts _ (List.mem_cons_of_mem _ tw_396)) (fun _ h9 => h9) rfl d_Mo_put_91 ?_
                  refine ed_pc (pc' := 94) rfl ?_
                  refine ed_if_le (tgt := 99) hx hb d_Mo_put_94 rfl (by omega) (fun h_14 => ?_) (fun h_14 => ?_)
                  · exact absurd h_14 (by omega)
                  · skip
                    refine ed_pc (pc' := 97) rfl ?_
                    refine lv_iconst (v := iI 0) hx hb d_Mo_put_97 rfl ?_
                    exact W.iret (v := (iI (0))) hx hb hr (fun t9 ht9 hW9 => ⟨⟨(iI (0)), [(mo, .inr (4, [.ref nb, .ref un, .ref ov, .ref xx, .ref dc, .int (iI (zl)), .int (iI (1)), .long (ma), .int (iI (pw)), .int (iI (zk))])), (nb, .inr (3, [.ref nd, .int (iI (((dl X : Nat) : Int))), .int (iI (pt))])), (nd, .inl (cB, 4200, .inl d))], rfl, ⟨rfl, rfl⟩, by rw [ht9]; exact hP, hD⟩, hS.F ht9⟩) hS.2.2 d_Mo_put_98
                · skip
                  refine ed_pc (pc' := 75) rfl ?_
                  refine lv_aload_n hx hb d_Mo_put_75 rfl (lv_at hl 2 rfl) ?_
                  refine va_get (D := D) (ci := 4) (v := .int (iI (zl))) (C := R_Mo) (T := T_Mo) (N := 10) hx hb hts (fun w h => List.mem_cons_of_mem _ (in_Mo w h)) hown hK hP 0 rfl rfl 5 (by decide) (hts _ (List.mem_cons_of_mem _ tw_395)) (fun _ h9 => h9) rfl d_Mo_put_76 ?_
                  refine ed_if_eq (tgt := 86) hx hb d_Mo_put_79 rfl (by omega) (fun h_15 => ?_) (fun h_15 => ?_)
                  · skip
                    refine ed_pc (pc' := 86) rfl ?_
                    exfalso; omega
                  · skip
                    refine ed_pc (pc' := 82) rfl ?_
                    refine lv_iconst (v := iI 1) hx hb d_Mo_put_82 rfl ?_
                    refine lv_goto (tgt := 87) hx hb d_Mo_put_83 rfl ?_
                    refine ed_pc (pc' := 87) rfl ?_
                    refine va_put (D := D) (ci := 4) (v := .int (iI (1))) (ty := .int) (C := R_Mo) (T := T_Mo) (N := 10) hx hb hts (fun w h => List.mem_cons_of_mem _ (in_Mo w h)) y_Mo t_Mo n_Mo hown hK hP hD hS 0 rfl rfl 6 (by decide) (hts _ (List.mem_cons_of_mem _ tw_396)) (fun _ h9 => h9) rfl (by decide +kernel) rfl rfl (Nat.le_of_ble_eq_true rfl) d_Mo_put_87 (fun H locs hP hD hS => ?_)
                    have hP : va_P D ecl [(mo, .inr (4, [.ref nb, .ref un, .ref ov, .ref xx, .ref dc, .int (iI (zl)), .int (iI (1)), .long (ma), .int (iI (pw)), .int (iI (zk))])), (nb, .inr (3, [.ref nd, .int (iI (((dl X : Nat) : Int))), .int (iI (pt))])), (nd, .inl (cB, 4200, .inl d))] H := hP
                    have hD : va_D A [(mo, .inr (4, [.ref nb, .ref un, .ref ov, .ref xx, .ref dc, .int (iI (zl)), .int (iI (1)), .long (ma), .int (iI (pw)), .int (iI (zk))])), (nb, .inr (3, [.ref nd, .int (iI (((dl X : Nat) : Int))), .int (iI (pt))])), (nd, .inl (cB, 4200, .inl d))] := hD
                    refine lv_aload_n hx hb d_Mo_put_90 rfl (lv_at hl 2 rfl) ?_
                    refine va_get (D := D) (ci := 4) (v := .int (iI (1))) (C := R_Mo) (T := T_Mo) (N := 10) hx hb hts (fun w h => List.mem_cons_of_mem _ (in_Mo w h)) hown hK hP 0 rfl rfl 6 (by decide) (hts _ (List.mem_cons_of_mem _ tw_396)) (fun _ h9 => h9) rfl d_Mo_put_91 ?_
                    refine ed_if_le (tgt := 99) hx hb d_Mo_put_94 rfl (by omega) (fun h_16 => ?_) (fun h_16 => ?_)
                    · exact absurd h_16 (by omega)
                    · skip
                      refine ed_pc (pc' := 97) rfl ?_
                      refine lv_iconst (v := iI 0) hx hb d_Mo_put_97 rfl ?_
                      exact W.iret (v := (iI (0))) hx hb hr (fun t9 ht9 hW9 => ⟨⟨(iI (0)), [(mo, .inr (4, [.ref nb, .ref un, .ref ov, .ref xx, .ref dc, .int (iI (zl)), .int (iI (1)), .long (ma), .int (iI (pw)), .int (iI (zk))])), (nb, .inr (3, [.ref nd, .int (iI (((dl X : Nat) : Int))), .int (iI (pt))])), (nd, .inl (cB, 4200, .inl d))], rfl, ⟨rfl, rfl⟩, by rw [ht9]; exact hP, hD⟩, hS.F ht9⟩) hS.2.2 d_Mo_put_98
  · skip
    refine ed_pc (pc' := 20) rfl ?_
    refine lv_iconst (v := iI 1) hx hb d_Mo_put_20 rfl ?_
    refine lv_goto (tgt := 25) hx hb d_Mo_put_21 rfl ?_
    refine lv_istore hx hb d_Mo_put_25 hl (by decide) rfl (fun ls hl => ?_)
    have hl : lv_has ls 6 [(4, .int (iI (1))), (3, .int (iI ((k) + (pt)))), (0, .ref mo), (1, .int (iI (k))), (2, .int (iI (z)))] := hl
    refine lv_aload_n hx hb d_Mo_put_27 rfl (lv_at hl 2 rfl) ?_
    refine lv_iload_n hx hb d_Mo_put_28 rfl (lv_at hl 4 rfl) ?_
    refine ed_pc (pc' := 29) rfl ?_
    refine ed_if_lt (tgt := 82) hx hb d_Mo_put_29 rfl (by omega) (fun h_17 => ?_) (fun h_17 => ?_)
    · skip
      refine ed_pc (pc' := 82) rfl ?_
      refine lv_iconst (v := iI 1) hx hb d_Mo_put_82 rfl ?_
      refine lv_goto (tgt := 87) hx hb d_Mo_put_83 rfl ?_
      refine va_put (D := D) (ci := 4) (v := .int (iI (1))) (ty := .int) (C := R_Mo) (T := T_Mo) (N := 10) hx hb hts (fun w h => List.mem_cons_of_mem _ (in_Mo w h)) y_Mo t_Mo n_Mo hown hK hP hD hS 0 rfl rfl 6 (by decide) (hts _ (List.mem_cons_of_mem _ tw_396)) (fun _ h9 => h9) rfl (by decide +kernel) rfl rfl (Nat.le_of_ble_eq_true rfl) d_Mo_put_87 (fun H locs hP hD hS => ?_)
      have hP : va_P D ecl [(mo, .inr (4, [.ref nb, .ref un, .ref ov, .ref xx, .ref dc, .int (iI (zl)), .int (iI (1)), .long (ma), .int (iI (pw)), .int (iI (zk))])), (nb, .inr (3, [.ref nd, .int (iI (((dl X : Nat) : Int))), .int (iI (pt))])), (nd, .inl (cB, 4200, .inl d))] H := hP
      have hD : va_D A [(mo, .inr (4, [.ref nb, .ref un, .ref ov, .ref xx, .ref dc, .int (iI (zl)), .int (iI (1)), .long (ma), .int (iI (pw)), .int (iI (zk))])), (nb, .inr (3, [.ref nd, .int (iI (((dl X : Nat) : Int))), .int (iI (pt))])), (nd, .inl (cB, 4200, .inl d))] := hD
      refine lv_aload_n hx hb d_Mo_put_90 rfl (lv_at hl 2 rfl) ?_
      refine va_get (D := D) (ci := 4) (v := .int (iI (1))) (C := R_Mo) (T := T_Mo) (N := 10) hx hb hts (fun w h => List.mem_cons_of_mem _ (in_Mo w h)) hown hK hP 0 rfl rfl 6 (by decide) (hts _ (List.mem_cons_of_mem _ tw_396)) (fun _ h9 => h9) rfl d_Mo_put_91 ?_
      refine ed_if_le (tgt := 99) hx hb d_Mo_put_94 rfl (by omega) (fun h_18 => ?_) (fun h_18 => ?_)
      · exact absurd h_18 (by omega)
      · skip
        refine ed_pc (pc' := 97) rfl ?_
        refine lv_iconst (v := iI 0) hx hb d_Mo_put_97 rfl ?_
        exact W.iret (v := (iI (0))) hx hb hr (fun t9 ht9 hW9 => ⟨⟨(iI (0)), [(mo, .inr (4, [.ref nb, .ref un, .ref ov, .ref xx, .ref dc, .int (iI (zl)), .int (iI (1)), .long (ma), .int (iI (pw)), .int (iI (zk))])), (nb, .inr (3, [.ref nd, .int (iI (((dl X : Nat) : Int))), .int (iI (pt))])), (nd, .inl (cB, 4200, .inl d))], rfl, ⟨rfl, rfl⟩, by rw [ht9]; exact hP, hD⟩, hS.F ht9⟩) hS.2.2 d_Mo_put_98
    · skip
      refine ed_pc (pc' := 32) rfl ?_
      refine lv_iload_n hx hb d_Mo_put_32 rfl (lv_at hl 4 rfl) ?_
      refine lv_bipush (v := iI 9) hx hb d_Mo_put_33 (by decide +kernel) ?_
      refine ed_icmp_gt (tgt := 82) hx hb d_Mo_put_35 rfl (by omega) (by omega) (fun h_19 => ?_) (fun h_19 => ?_)
      · skip
        refine ed_pc (pc' := 82) rfl ?_
        refine lv_iconst (v := iI 1) hx hb d_Mo_put_82 rfl ?_
        refine lv_goto (tgt := 87) hx hb d_Mo_put_83 rfl ?_
        refine va_put (D := D) (ci := 4) (v := .int (iI (1))) (ty := .int) (C := R_Mo) (T := T_Mo) (N := 10) hx hb hts (fun w h => List.mem_cons_of_mem _ (in_Mo w h)) y_Mo t_Mo n_Mo hown hK hP hD hS 0 rfl rfl 6 (by decide) (hts _ (List.mem_cons_of_mem _ tw_396)) (fun _ h9 => h9) rfl (by decide +kernel) rfl rfl (Nat.le_of_ble_eq_true rfl) d_Mo_put_87 (fun H locs hP hD hS => ?_)
        have hP : va_P D ecl [(mo, .inr (4, [.ref nb, .ref un, .ref ov, .ref xx, .ref dc, .int (iI (zl)), .int (iI (1)), .long (ma), .int (iI (pw)), .int (iI (zk))])), (nb, .inr (3, [.ref nd, .int (iI (((dl X : Nat) : Int))), .int (iI (pt))])), (nd, .inl (cB, 4200, .inl d))] H := hP
        have hD : va_D A [(mo, .inr (4, [.ref nb, .ref un, .ref ov, .ref xx, .ref dc, .int (iI (zl)), .int (iI (1)), .long (ma), .int (iI (pw)), .int (iI (zk))])), (nb, .inr (3, [.ref nd, .int (iI (((dl X : Nat) : Int))), .int (iI (pt))])), (nd, .inl (cB, 4200, .inl d))] := hD
        refine lv_aload_n hx hb d_Mo_put_90 rfl (lv_at hl 2 rfl) ?_
        refine ed_pc (pc' := 91) rfl ?_
        refine va_get (D := D) (ci := 4) (v := .int (iI (1))) (C := R_Mo) (T := T_Mo) (N := 10) hx hb hts (fun w h => List.mem_cons_of_mem _ (in_Mo w h)) hown hK hP 0 rfl rfl 6 (by decide) (hts _ (List.mem_cons_of_mem _ tw_396)) (fun _ h9 => h9) rfl d_Mo_put_91 ?_
        refine ed_if_le (tgt := 99) hx hb d_Mo_put_94 rfl (by omega) (fun h_20 => ?_) (fun h_20 => ?_)
        · exact absurd h_20 (by omega)
        · skip
          refine ed_pc (pc' := 97) rfl ?_
          refine lv_iconst (v := iI 0) hx hb d_Mo_put_97 rfl ?_
          exact W.iret (v := (iI (0))) hx hb hr (fun t9 ht9 hW9 => ⟨⟨(iI (0)), [(mo, .inr (4, [.ref nb, .ref un, .ref ov, .ref xx, .ref dc, .int (iI (zl)), .int (iI (1)), .long (ma), .int (iI (pw)), .int (iI (zk))])), (nb, .inr (3, [.ref nd, .int (iI (((dl X : Nat) : Int))), .int (iI (pt))])), (nd, .inl (cB, 4200, .inl d))], rfl, ⟨rfl, rfl⟩, by rw [ht9]; exact hP, hD⟩, hS.F ht9⟩) hS.2.2 d_Mo_put_98
      · skip
        refine ed_pc (pc' := 38) rfl ?_
        refine lv_iload_n hx hb d_Mo_put_38 rfl (lv_at hl 3 rfl) ?_
        refine lv_sipush (v := iI (-400)) hx hb d_Mo_put_39 (by decide +kernel) ?_
        refine ed_icmp_lt (tgt := 82) hx hb d_Mo_put_42 rfl (by omega) (by omega) (fun h_21 => ?_) (fun h_21 => ?_)
        · skip
          refine ed_pc (pc' := 82) rfl ?_
          refine lv_iconst (v := iI 1) hx hb d_Mo_put_82 rfl ?_
          refine ed_pc (pc' := 83) rfl ?_
          refine lv_goto (tgt := 87) hx hb d_Mo_put_83 rfl ?_
          refine va_put (D := D) (ci := 4) (v := .int (iI (1))) (ty := .int) (C := R_Mo) (T := T_Mo) (N := 10) hx hb hts (fun w h => List.mem_cons_of_mem _ (in_Mo w h)) y_Mo t_Mo n_Mo hown hK hP hD hS 0 rfl rfl 6 (by decide) (hts _ (List.mem_cons_of_mem _ tw_396)) (fun _ h9 => h9) rfl (by decide +kernel) rfl rfl (Nat.le_of_ble_eq_true rfl) d_Mo_put_87 (fun H locs hP hD hS => ?_)
          have hP : va_P D ecl [(mo, .inr (4, [.ref nb, .ref un, .ref ov, .ref xx, .ref dc, .int (iI (zl)), .int (iI (1)), .long (ma), .int (iI (pw)), .int (iI (zk))])), (nb, .inr (3, [.ref nd, .int (iI (((dl X : Nat) : Int))), .int (iI (pt))])), (nd, .inl (cB, 4200, .inl d))] H := hP
          have hD : va_D A [(mo, .inr (4, [.ref nb, .ref un, .ref ov, .ref xx, .ref dc, .int (iI (zl)), .int (iI (1)), .long (ma), .int (iI (pw)), .int (iI (zk))])), (nb, .inr (3, [.ref nd, .int (iI (((dl X : Nat) : Int))), .int (iI (pt))])), (nd, .inl (cB, 4200, .inl d))] := hD
          refine lv_aload_n hx hb d_Mo_put_90 rfl (lv_at hl 2 rfl) ?_
          refine va_get (D := D) (ci := 4) (v := .int (iI (1))) (C := R_Mo) (T := T_Mo) (N := 10) hx hb hts (fun w h => List.mem_cons_of_mem _ (in_Mo w h)) hown hK hP 0 rfl rfl 6 (by decide) (hts _ (List.mem_cons_of_mem _ tw_396)) (fun _ h9 => h9) rfl d_Mo_put_91 ?_
          refine ed_if_le (tgt := 99) hx hb d_Mo_put_94 rfl (by omega) (fun h_22 => ?_) (fun h_22 => ?_)
          · exact absurd h_22 (by omega)
          · skip
            refine ed_pc (pc' := 97) rfl ?_
            refine lv_iconst (v := iI 0) hx hb d_Mo_put_97 rfl ?_
            exact W.iret (v := (iI (0))) hx hb hr (fun t9 ht9 hW9 => ⟨⟨(iI (0)), [(mo, .inr (4, [.ref nb, .ref un, .ref ov, .ref xx, .ref dc, .int (iI (zl)), .int (iI (1)), .long (ma), .int (iI (pw)), .int (iI (zk))])), (nb, .inr (3, [.ref nd, .int (iI (((dl X : Nat) : Int))), .int (iI (pt))])), (nd, .inl (cB, 4200, .inl d))], rfl, ⟨rfl, rfl⟩, by rw [ht9]; exact hP, hD⟩, hS.F ht9⟩) hS.2.2 d_Mo_put_98
        · skip
          refine ed_pc (pc' := 45) rfl ?_
          refine lv_iload_n hx hb d_Mo_put_45 rfl (lv_at hl 3 rfl) ?_
          refine ed_pc (pc' := 46) rfl ?_
          refine lv_sipush (v := iI 400) hx hb d_Mo_put_46 (by decide +kernel) ?_
          refine ed_icmp_gt (tgt := 82) hx hb d_Mo_put_49 rfl (by omega) (by omega) (fun h_23 => ?_) (fun h_23 => ?_)
          · skip
            refine ed_pc (pc' := 82) rfl ?_
            refine lv_iconst (v := iI 1) hx hb d_Mo_put_82 rfl ?_
            refine lv_goto (tgt := 87) hx hb d_Mo_put_83 rfl ?_
            refine va_put (D := D) (ci := 4) (v := .int (iI (1))) (ty := .int) (C := R_Mo) (T := T_Mo) (N := 10) hx hb hts (fun w h => List.mem_cons_of_mem _ (in_Mo w h)) y_Mo t_Mo n_Mo hown hK hP hD hS 0 rfl rfl 6 (by decide) (hts _ (List.mem_cons_of_mem _ tw_396)) (fun _ h9 => h9) rfl (by decide +kernel) rfl rfl (Nat.le_of_ble_eq_true rfl) d_Mo_put_87 (fun H locs hP hD hS => ?_)
            have hP : va_P D ecl [(mo, .inr (4, [.ref nb, .ref un, .ref ov, .ref xx, .ref dc, .int (iI (zl)), .int (iI (1)), .long (ma), .int (iI (pw)), .int (iI (zk))])), (nb, .inr (3, [.ref nd, .int (iI (((dl X : Nat) : Int))), .int (iI (pt))])), (nd, .inl (cB, 4200, .inl d))] H := hP
            have hD : va_D A [(mo, .inr (4, [.ref nb, .ref un, .ref ov, .ref xx, .ref dc, .int (iI (zl)), .int (iI (1)), .long (ma), .int (iI (pw)), .int (iI (zk))])), (nb, .inr (3, [.ref nd, .int (iI (((dl X : Nat) : Int))), .int (iI (pt))])), (nd, .inl (cB, 4200, .inl d))] := hD
            refine lv_aload_n hx hb d_Mo_put_90 rfl (lv_at hl 2 rfl) ?_
            refine va_get (D := D) (ci := 4) (v := .int (iI (1))) (C := R_Mo) (T := T_Mo) (N := 10) hx hb hts (fun w h => List.mem_cons_of_mem _ (in_Mo w h)) hown hK hP 0 rfl rfl 6 (by decide) (hts _ (List.mem_cons_of_mem _ tw_396)) (fun _ h9 => h9) rfl d_Mo_put_91 ?_
            refine ed_if_le (tgt := 99) hx hb d_Mo_put_94 rfl (by omega) (fun h_24 => ?_) (fun h_24 => ?_)
            · exact absurd h_24 (by omega)
            · skip
              refine ed_pc (pc' := 97) rfl ?_
              refine ed_pc (pc' := 97) rfl ?_
              refine lv_iconst (v := iI 0) hx hb d_Mo_put_97 rfl ?_
              exact W.iret (v := (iI (0))) hx hb hr (fun t9 ht9 hW9 => ⟨⟨(iI (0)), [(mo, .inr (4, [.ref nb, .ref un, .ref ov, .ref xx, .ref dc, .int (iI (zl)), .int (iI (1)), .long (ma), .int (iI (pw)), .int (iI (zk))])), (nb, .inr (3, [.ref nd, .int (iI (((dl X : Nat) : Int))), .int (iI (pt))])), (nd, .inl (cB, 4200, .inl d))], rfl, ⟨rfl, rfl⟩, by rw [ht9]; exact hP, hD⟩, hS.F ht9⟩) hS.2.2 d_Mo_put_98
          · skip
            refine ed_pc (pc' := 52) rfl ?_
            refine lv_iload hx hb d_Mo_put_52 (lv_at hl 0 rfl) ?_
            refine ed_if_ne (tgt := 75) hx hb d_Mo_put_54 rfl (by omega) (fun h_25 => ?_) (fun h_25 => ?_)
            · skip
              refine ed_pc (pc' := 75) rfl ?_
              refine lv_aload_n hx hb d_Mo_put_75 rfl (lv_at hl 2 rfl) ?_
              refine va_get (D := D) (ci := 4) (v := .int (iI (zl))) (C := R_Mo) (T := T_Mo) (N := 10) hx hb hts (fun w h => List.mem_cons_of_mem _ (in_Mo w h)) hown hK hP 0 rfl rfl 5 (by decide) (hts _ (List.mem_cons_of_mem _ tw_395)) (fun _ h9 => h9) rfl d_Mo_put_76 ?_
              refine ed_if_eq (tgt := 86) hx hb d_Mo_put_79 rfl (by omega) (fun h_26 => ?_) (fun h_26 => ?_)
              · skip
                refine ed_pc (pc' := 86) rfl ?_
                exfalso; omega
              · skip
                refine ed_pc (pc' := 82) rfl ?_
                refine lv_iconst (v := iI 1) hx hb d_Mo_put_82 rfl ?_
                refine ed_pc (pc' := 83) rfl ?_
                refine lv_goto (tgt := 87) hx hb d_Mo_put_83 rfl ?_
                refine va_put (D := D) (ci := 4) (v := .int (iI (1))) (ty := .int) (C := R_Mo) (T := T_Mo) (N := 10) hx hb hts (fun w h => List.mem_cons_of_mem _ (in_Mo w h)) y_Mo t_Mo n_Mo hown hK hP hD hS 0 rfl rfl 6 (by decide) (hts _ (List.mem_cons_of_mem _ tw_396)) (fun _ h9 => h9) rfl (by decide +kernel) rfl rfl (Nat.le_of_ble_eq_true rfl) d_Mo_put_87 (fun H locs hP hD hS => ?_)
                have hP : va_P D ecl [(mo, .inr (4, [.ref nb, .ref un, .ref ov, .ref xx, .ref dc, .int (iI (zl)), .int (iI (1)), .long (ma), .int (iI (pw)), .int (iI (zk))])), (nb, .inr (3, [.ref nd, .int (iI (((dl X : Nat) : Int))), .int (iI (pt))])), (nd, .inl (cB, 4200, .inl d))] H := hP
                have hD : va_D A [(mo, .inr (4, [.ref nb, .ref un, .ref ov, .ref xx, .ref dc, .int (iI (zl)), .int (iI (1)), .long (ma), .int (iI (pw)), .int (iI (zk))])), (nb, .inr (3, [.ref nd, .int (iI (((dl X : Nat) : Int))), .int (iI (pt))])), (nd, .inl (cB, 4200, .inl d))] := hD
                refine lv_aload_n hx hb d_Mo_put_90 rfl (lv_at hl 2 rfl) ?_
                refine va_get (D := D) (ci := 4) (v := .int (iI (1))) (C := R_Mo) (T := T_Mo) (N := 10) hx hb hts (fun w h => List.mem_cons_of_mem _ (in_Mo w h)) hown hK hP 0 rfl rfl 6 (by decide) (hts _ (List.mem_cons_of_mem _ tw_396)) (fun _ h9 => h9) rfl d_Mo_put_91 ?_
                refine ed_if_le (tgt := 99) hx hb d_Mo_put_94 rfl (by omega) (fun h_27 => ?_) (fun h_27 => ?_)
                · exact absurd h_27 (by omega)
                · skip
                  refine ed_pc (pc' := 97) rfl ?_
                  refine lv_iconst (v := iI 0) hx hb d_Mo_put_97 rfl ?_
                  exact W.iret (v := (iI (0))) hx hb hr (fun t9 ht9 hW9 => ⟨⟨(iI (0)), [(mo, .inr (4, [.ref nb, .ref un, .ref ov, .ref xx, .ref dc, .int (iI (zl)), .int (iI (1)), .long (ma), .int (iI (pw)), .int (iI (zk))])), (nb, .inr (3, [.ref nd, .int (iI (((dl X : Nat) : Int))), .int (iI (pt))])), (nd, .inl (cB, 4200, .inl d))], rfl, ⟨rfl, rfl⟩, by rw [ht9]; exact hP, hD⟩, hS.F ht9⟩) hS.2.2 d_Mo_put_98
            · exact absurd h_25 (by omega)
