set_option maxHeartbeats 4000000 in
set_option maxRecDepth 100000 in
theorem c_Ed_append (l : Launch) (D : va_G) (cB cI cJ : ClassId) (t5 : Nat) (ad : Nat → Nat) (x dg q : Nat) (g : Nat → Int32) (pt zl k : Int) (X i d : Nat) (hn : nm_ok g X) (hi : dl X ≤ i) (hi2 : i < 1200) (h0 : X = 0 → i = 0) (hd : 0 < d ∧ d < 10) (hk : iR k) : c_V l m_Ed_append (Cond.code m_Ed_append b_Ed_append 5 none :: gw) (rm_ 0 0) (eX t5 ad) D ecl (tyS cB cI cJ) [.ref x, .int (iI ((i : Int))), .int (iI (k)), .int (iI ((d : Int)))] [(x, .inr (1, [.ref dg, .int (iI (((dl X : Nat) : Int))), .int (iI (pt)), .int (iI (zl)), .ref q])), (dg, .inl (cB, 1200, .inl g))] (fun u => ∃ g' : Nat → Int32, nm_ok g' (apX X i d) ∧ u = [(x, .inr (1, [.ref dg, .int (iI (((dl (apX X i d) : Nat) : Int))), .int (iI (if X = 0 then -k else pt)), .int (iI (zl)), .ref q])), (dg, .inl (cB, 1200, .inl g'))]) 0 0 := by
  intro sz0
  refine Met.ofW (cc := b_Ed_append) (maxL := 5) (ret := none) (by decide) rfl ?_
  intro p e s m args below meth c s₁ B hml hv
  obtain ⟨rfl, hsz, hP, hK, hD0, hE⟩ := hv
  have hx := B.exec
  have hb := B.bytes
  have hr := B.returns
  have hts := atoms_spec (ws := Cond.code m_Ed_append b_Ed_append 5 none :: gw) B.pre
  have hown : s.vm.findClass R_Ed = some m.cls := findClass_of_methodNamed B.named
  have hlocks := B.notSynchronized
  subst hsz
  have hD := hD0.self (sz := s.heap.size)
  generalize hAe : va_A [(x, .inr (1, [.ref dg, .int (iI (((dl X : Nat) : Int))), .int (iI (pt)), .int (iI (zl)), .ref q])), (dg, .inl (cB, 1200, .inl g))] s.heap.size = A at hD hE ⊢
  have hA : ∀ q : Nat, s.heap.size ≤ q → A q := fun q h => by rw [← hAe]; exact Or.inr h
  have hS : va_S A s.heap s.heap [] := va_S.rf
  have hl := lv_entry ([.ref x, .int (iI ((i : Int))), .int (iI (k)), .int (iI ((d : Int)))]) (n := 5) (Nat.le_of_ble_eq_true rfl)
  rw [lg_entry_eq]
  generalize (lg_sl ([.ref x, .int (iI ((i : Int))), .int (iI (k)), .int (iI ((d : Int)))]) ++ List.replicate (5 - (lg_sl ([.ref x, .int (iI ((i : Int))), .int (iI (k)), .int (iI ((d : Int)))])).length) Slot.unset).toArray = ls at hl ⊢
  have hl : lv_has ls 5 [(0, .ref x), (1, .int (iI ((i : Int)))), (2, .int (iI (k))), (3, .int (iI ((d : Int))))] := hl
  have hd0 : dl X = 0 ↔ X = 0 := ⟨fun z => dl_eq0 z, fun z => by rw [z, dl_0]⟩
  have L19 : ∀ (n9 : Nat) (j : Nat) (h : Nat → Int32) (zj : Int) (zp : Int) (ls : Array Slot) (H : Heap) (locs : List Loc), i - j = n9 → (zj = (j : Int)) → (zp = if X = 0 then -k else pt) → (dl X ≤ j) → (j ≤ i) → (dg_ok h j (X * 10 ^ (j - dl X))) → lv_has ls 5 [(0, .ref x), (1, .int (iI ((i : Int)))), (3, .int (iI ((d : Int)))), (4, .int (iI (zj)))] → va_P D ecl [(x, .inr (1, [.ref dg, .int (iI (((dl X : Nat) : Int))), .int (iI (zp)), .int (iI (zl)), .ref q])), (dg, .inl (cB, 1200, .inl h))] H → va_D A [(x, .inr (1, [.ref dg, .int (iI (((dl X : Nat) : Int))), .int (iI (zp)), .int (iI (zl)), .ref q])), (dg, .inl (cB, 1200, .inl h))] → va_S A s.heap H locs → W p l e (headSpec (Cond.code m_Ed_append b_Ed_append 5 none :: gw) (rm_ 0 0)).room s m ([.ref x, .int (iI ((i : Int))), .int (iI (k)), .int (iI ((d : Int)))] : List Value).toArray below meth c H locs 0 0 (MQ below (va_Qv (fun u => ∃ g' : Nat → Int32, nm_ok g' (apX X i d) ∧ u = [(x, .inr (1, [.ref dg, .int (iI (((dl (apX X i d) : Nat) : Int))), .int (iI (if X = 0 then -k else pt)), .int (iI (zl)), .ref q])), (dg, .inl (cB, 1200, .inl g'))]) (c_B D ecl A) A) ([.ref x, .int (iI ((i : Int))), .int (iI (k)), .int (iI ((d : Int)))] : List Value).toArray s 0 0 A) (F0 m 19 ls []) := by
    intro n9
    induction n9 using Nat.strongRecOn with
    | ind n9 ih =>
    intro j h zj zp ls H locs hn9 hj hzp hj1 hj2 hjg hl hP hD hS
    refine lv_iload hx hb d_Ed_append_19 (lv_at hl 3 rfl) ?_
    refine lv_iload_n hx hb d_Ed_append_21 rfl (lv_at hl 1 rfl) ?_
    refine ed_icmp_ge (tgt := 39) hx hb d_Ed_append_22 rfl (by omega) (by omega) (fun h_1 => ?_) (fun h_1 => ?_)
    · skip
      refine ed_pc (pc' := 39) rfl ?_
      refine lv_aload_n hx hb d_Ed_append_39 rfl (lv_at hl 0 rfl) ?_
      refine va_get (D := D) (ci := 1) (v := .ref dg) (C := R_Ed) (T := T_Ed) (N := 5) hx hb hts (fun w h => List.mem_cons_of_mem _ (in_Ed w h)) hown hK hP 0 rfl rfl 0 (by decide) (hts _ (List.mem_cons_of_mem _ tw_40)) (fun _ h9 => h9) rfl d_Ed_append_40 ?_
      refine lv_iload_n hx hb d_Ed_append_43 rfl (lv_at hl 1 rfl) ?_
      refine lv_iload_n hx hb d_Ed_append_44 rfl (lv_at hl 2 rfl) ?_
      refine ed_pc (pc' := 45) rfl ?_
      refine ed_i2b hx hb d_Ed_append_45 (by omega) ?_
      refine ed_bast hx hb hK hP hD hS 1 0 rfl rfl (i) (by omega) (by omega) (by decide) (by omega) d_Ed_append_46 (fun H locs hP hD hS => ?_)
      have hP : va_P D ecl [(x, .inr (1, [.ref dg, .int (iI (((dl X : Nat) : Int))), .int (iI (zp)), .int (iI (zl)), .ref q])), (dg, .inl (cB, 1200, .inl (upd h (i) ((iI ((d : Int)))))))] H := hP
      have hD : va_D A [(x, .inr (1, [.ref dg, .int (iI (((dl X : Nat) : Int))), .int (iI (zp)), .int (iI (zl)), .ref q])), (dg, .inl (cB, 1200, .inl (upd h (i) ((iI ((d : Int)))))))] := hD
      refine lv_aload_n hx hb d_Ed_append_47 rfl (lv_at hl 0 rfl) ?_
      refine lv_iload_n hx hb d_Ed_append_48 rfl (lv_at hl 1 rfl) ?_
      refine lv_iconst (v := iI 1) hx hb d_Ed_append_49 rfl ?_
      refine ed_iadd hx hb d_Ed_append_50 ?_
      refine va_put (D := D) (ci := 1) (v := .int (iI (((i : Int)) + (1)))) (ty := .int) (C := R_Ed) (T := T_Ed) (N := 5) hx hb hts (fun w h => List.mem_cons_of_mem _ (in_Ed w h)) y_Ed t_Ed n_Ed hown hK hP hD hS 0 rfl rfl 1 (by decide) (hts _ (List.mem_cons_of_mem _ tw_41)) (fun _ h9 => h9) rfl (by decide +kernel) rfl rfl (Nat.le_of_ble_eq_true rfl) d_Ed_append_51 (fun H locs hP hD hS => ?_)
      have hP : va_P D ecl [(x, .inr (1, [.ref dg, .int (iI (((i : Int)) + (1))), .int (iI (zp)), .int (iI (zl)), .ref q])), (dg, .inl (cB, 1200, .inl (upd h (i) ((iI ((d : Int)))))))] H := hP
      have hD : va_D A [(x, .inr (1, [.ref dg, .int (iI (((i : Int)) + (1))), .int (iI (zp)), .int (iI (zl)), .ref q])), (dg, .inl (cB, 1200, .inl (upd h (i) ((iI ((d : Int)))))))] := hD
      have hji : j = i := by omega
      rw [hji] at hjg
      exact W.vret hx hb hr (fun t9 ht9 hW9 => ⟨⟨[(x, .inr (1, [.ref dg, .int (iI (((i : Int)) + (1))), .int (iI (zp)), .int (iI (zl)), .ref q])), (dg, .inl (cB, 1200, .inl (upd h (i) ((iI ((d : Int)))))))], rfl, ⟨upd h i (iI ((d : Nat) : Int)), ap_ok hi hi2 h0 hd hjg, by rw [ap_dl hi h0 hd, hzp]; rfl⟩, by rw [ht9]; exact hP, hD⟩, hS.F ht9⟩) hS.2.2 d_Ed_append_54
    · skip
      refine ed_pc (pc' := 25) rfl ?_
      refine lv_aload_n hx hb d_Ed_append_25 rfl (lv_at hl 0 rfl) ?_
      refine va_get (D := D) (ci := 1) (v := .ref dg) (C := R_Ed) (T := T_Ed) (N := 5) hx hb hts (fun w h => List.mem_cons_of_mem _ (in_Ed w h)) hown hK hP 0 rfl rfl 0 (by decide) (hts _ (List.mem_cons_of_mem _ tw_40)) (fun _ h9 => h9) rfl d_Ed_append_26 ?_
      refine lv_iload hx hb d_Ed_append_29 (lv_at hl 3 rfl) ?_
      refine lv_iconst (v := iI 0) hx hb d_Ed_append_31 rfl ?_
      refine ed_pc (pc' := 32) rfl ?_
      refine ed_bast hx hb hK hP hD hS 1 0 rfl rfl (j) (by omega) (by omega) (by decide) (by omega) d_Ed_append_32 (fun H locs hP hD hS => ?_)
      have hP : va_P D ecl [(x, .inr (1, [.ref dg, .int (iI (((dl X : Nat) : Int))), .int (iI (zp)), .int (iI (zl)), .ref q])), (dg, .inl (cB, 1200, .inl (upd h (j) ((iI (0))))))] H := hP
      have hD : va_D A [(x, .inr (1, [.ref dg, .int (iI (((dl X : Nat) : Int))), .int (iI (zp)), .int (iI (zl)), .ref q])), (dg, .inl (cB, 1200, .inl (upd h (j) ((iI (0))))))] := hD
      refine lv_iinc (k := 3) (v := iI (zj + 1)) hx hb d_Ed_append_33 hl rfl (iI_add _ _) (by decide) rfl (fun ls hl => ?_)
      have hl : lv_has ls 5 [(4, .int (iI (zj + 1))), (0, .ref x), (1, .int (iI ((i : Int)))), (3, .int (iI ((d : Int))))] := hl
      refine lv_goto (tgt := 19) hx hb d_Ed_append_36 rfl ?_
      have hl := lv_sub hl [1, 2, 3, 0] rfl
      exact ih _ (by omega) (j + 1) (upd h j (iI 0)) _ _ ls H locs rfl (by omega) (hzp) (by omega) (by omega) (ap_z hj1 hjg) hl hP hD hS
  refine lv_aload_n hx hb d_Ed_append_0 rfl (lv_at hl 0 rfl) ?_
  refine va_get (D := D) (ci := 1) (v := .int (iI (((dl X : Nat) : Int)))) (C := R_Ed) (T := T_Ed) (N := 5) hx hb hts (fun w h => List.mem_cons_of_mem _ (in_Ed w h)) hown hK hP 0 rfl rfl 1 (by decide) (hts _ (List.mem_cons_of_mem _ tw_41)) (fun _ h9 => h9) rfl d_Ed_append_1 ?_
  refine ed_if_ne (tgt := 13) hx hb d_Ed_append_4 rfl (by omega) (fun h_2 => ?_) (fun h_2 => ?_)
  · skip
    refine ed_pc (pc' := 13) rfl ?_
    refine lv_aload_n hx hb d_Ed_append_13 rfl (lv_at hl 0 rfl) ?_
    refine va_get (D := D) (ci := 1) (v := .int (iI (((dl X : Nat) : Int)))) (C := R_Ed) (T := T_Ed) (N := 5) hx hb hts (fun w h => List.mem_cons_of_mem _ (in_Ed w h)) hown hK hP 0 rfl rfl 1 (by decide) (hts _ (List.mem_cons_of_mem _ tw_41)) (fun _ h9 => h9) rfl d_Ed_append_14 ?_
    refine lv_istore hx hb d_Ed_append_17 hl (by decide) rfl (fun ls hl => ?_)
    have hl : lv_has ls 5 [(4, .int (iI (((dl X : Nat) : Int)))), (0, .ref x), (1, .int (iI ((i : Int)))), (2, .int (iI (k))), (3, .int (iI ((d : Int))))] := hl
    have hl := lv_sub hl [1, 2, 4, 0] rfl
    exact L19 _ (dl X) (g) _ _ ls s.heap [] rfl (rfl) (by rw [if_neg (by omega)]) (Nat.le_refl _) (hi) (by rw [Nat.sub_self, Nat.pow_zero, Nat.mul_one]; exact hn.2.2) hl hP hD hS
  · skip
    refine ed_pc (pc' := 7) rfl ?_
    refine lv_aload_n hx hb d_Ed_append_7 rfl (lv_at hl 0 rfl) ?_
    refine lv_iload_n hx hb d_Ed_append_8 rfl (lv_at hl 2 rfl) ?_
    refine ed_ineg hx hb d_Ed_append_9 ?_
    refine va_put (D := D) (ci := 1) (v := .int (iI (-(k)))) (ty := .int) (C := R_Ed) (T := T_Ed) (N := 5) hx hb hts (fun w h => List.mem_cons_of_mem _ (in_Ed w h)) y_Ed t_Ed n_Ed hown hK hP hD hS 0 rfl rfl 2 (by decide) (hts _ (List.mem_cons_of_mem _ tw_42)) (fun _ h9 => h9) rfl (by decide +kernel) rfl rfl (Nat.le_of_ble_eq_true rfl) d_Ed_append_10 (fun H locs hP hD hS => ?_)
    have hP : va_P D ecl [(x, .inr (1, [.ref dg, .int (iI (((dl X : Nat) : Int))), .int (iI (-(k))), .int (iI (zl)), .ref q])), (dg, .inl (cB, 1200, .inl g))] H := hP
    have hD : va_D A [(x, .inr (1, [.ref dg, .int (iI (((dl X : Nat) : Int))), .int (iI (-(k))), .int (iI (zl)), .ref q])), (dg, .inl (cB, 1200, .inl g))] := hD
    refine ed_pc (pc' := 13) rfl ?_
    refine lv_aload_n hx hb d_Ed_append_13 rfl (lv_at hl 0 rfl) ?_
    refine va_get (D := D) (ci := 1) (v := .int (iI (((dl X : Nat) : Int)))) (C := R_Ed) (T := T_Ed) (N := 5) hx hb hts (fun w h => List.mem_cons_of_mem _ (in_Ed w h)) hown hK hP 0 rfl rfl 1 (by decide) (hts _ (List.mem_cons_of_mem _ tw_41)) (fun _ h9 => h9) rfl d_Ed_append_14 ?_
    refine lv_istore hx hb d_Ed_append_17 hl (by decide) rfl (fun ls hl => ?_)
    have hl : lv_has ls 5 [(4, .int (iI (((dl X : Nat) : Int)))), (0, .ref x), (1, .int (iI ((i : Int)))), (2, .int (iI (k))), (3, .int (iI ((d : Int))))] := hl
    have hl := lv_sub hl [1, 2, 4, 0] rfl
    exact L19 _ (dl X) (g) _ _ ls H locs rfl (rfl) (by rw [if_pos (by omega)]) (Nat.le_refl _) (hi) (by rw [Nat.sub_self, Nat.pow_zero, Nat.mul_one]; exact hn.2.2) hl hP hD hS
set_option maxHeartbeats 4000000 in
set_option maxRecDepth 100000 in
theorem c_Ed_keepFirst (l : Launch) (D : va_G) (cB cI cJ : ClassId) (t5 : Nat) (ad : Nat → Nat) (x dg q : Nat) (g : Nat → Int32) (pt zl n : Int) (X : Nat) (hn : nm_ok g X) (hnr : iR n) : c_V l m_Ed_keepFirst (Cond.code m_Ed_keepFirst b_Ed_keepFirst 2 none :: gw) (rm_ 1 21) (eX t5 ad) D ecl (tyS cB cI cJ) [.ref x, .int (iI (n))] [(x, .inr (1, [.ref dg, .int (iI (((dl X : Nat) : Int))), .int (iI (pt)), .int (iI (zl)), .ref q])), (dg, .inl (cB, 1200, .inl g))] (fun u => nm_ok g (rz (kfY X n)) ∧ u = [(x, .inr (1, [.ref dg, .int (iI (((dl (rz (kfY X n)) : Nat) : Int))), .int (iI (if kfY X n = 0 then 0 else pt)), .int (iI (0)), .ref q])), (dg, .inl (cB, 1200, .inl g))]) 0 0 := by
  intro sz0
  refine Met.ofW (cc := b_Ed_keepFirst) (maxL := 2) (ret := none) (by decide) rfl ?_
  intro p e s m args below meth c s₁ B hml hv
  obtain ⟨rfl, hsz, hP, hK, hD0, hE⟩ := hv
  have hx := B.exec
  have hb := B.bytes
  have hr := B.returns
  have hts := atoms_spec (ws := Cond.code m_Ed_keepFirst b_Ed_keepFirst 2 none :: gw) B.pre
  have hown : s.vm.findClass R_Ed = some m.cls := findClass_of_methodNamed B.named
  have hlocks := B.notSynchronized
  subst hsz
  have hD := hD0.self (sz := s.heap.size)
  generalize hAe : va_A [(x, .inr (1, [.ref dg, .int (iI (((dl X : Nat) : Int))), .int (iI (pt)), .int (iI (zl)), .ref q])), (dg, .inl (cB, 1200, .inl g))] s.heap.size = A at hD hE ⊢
  have hA : ∀ q : Nat, s.heap.size ≤ q → A q := fun q h => by rw [← hAe]; exact Or.inr h
  have hS : va_S A s.heap s.heap [] := va_S.rf
  have hl := lv_entry ([.ref x, .int (iI (n))]) (n := 2) (Nat.le_of_ble_eq_true rfl)
  rw [lg_entry_eq]
  generalize (lg_sl ([.ref x, .int (iI (n))]) ++ List.replicate (2 - (lg_sl ([.ref x, .int (iI (n))])).length) Slot.unset).toArray = ls at hl ⊢
  have hl : lv_has ls 2 [(0, .ref x), (1, .int (iI (n)))] := hl
  have hk9 := kf_ok (n := n) hn
  have hd12 := hn.1
  refine lv_aload_n hx hb d_Ed_keepFirst_0 rfl (lv_at hl 0 rfl) ?_
  refine lv_aload_n hx hb d_Ed_keepFirst_1 rfl (lv_at hl 0 rfl) ?_
  refine va_get (D := D) (ci := 1) (v := .int (iI (((dl X : Nat) : Int)))) (C := R_Ed) (T := T_Ed) (N := 5) hx hb hts (fun w h => List.mem_cons_of_mem _ (in_Ed w h)) hown hK hP 0 rfl rfl 1 (by decide) (hts _ (List.mem_cons_of_mem _ tw_41)) (fun _ h9 => h9) rfl d_Ed_keepFirst_2 ?_
  refine lv_iload_n hx hb d_Ed_keepFirst_5 rfl (lv_at hl 1 rfl) ?_
  refine lv_iconst (v := iI 0) hx hb d_Ed_keepFirst_6 rfl ?_
  refine ed_max hx hb (hml.trans hl.1.symm) hown (hts _ (List.mem_cons_of_mem _ tw_332)) (hts _ (List.mem_cons_of_mem _ tw_146)) (hts _ (List.mem_cons_of_mem _ tw_6)) (hts _ (List.mem_cons_of_mem _ tw_147)) (Nat.le_of_ble_eq_true rfl) (Nat.le_of_ble_eq_true rfl) (Nat.le_of_ble_eq_true rfl) (Nat.le_of_ble_eq_true rfl) (by omega) (by omega) d_Ed_keepFirst_7 ?_
  refine ed_min hx hb (hml.trans hl.1.symm) hown (hts _ (List.mem_cons_of_mem _ tw_86)) (hts _ (List.mem_cons_of_mem _ tw_84)) (hts _ (List.mem_cons_of_mem _ tw_6)) (hts _ (List.mem_cons_of_mem _ tw_85)) (Nat.le_of_ble_eq_true rfl) (Nat.le_of_ble_eq_true rfl) (Nat.le_of_ble_eq_true rfl) (Nat.le_of_ble_eq_true rfl) (by omega) (by omega) d_Ed_keepFirst_10 ?_
  refine ed_tz (y := ((dl (kfY X n) : Nat) : Int)) (by rw [kf_dl]; omega) ?_
  refine ed_pc (pc' := 13) rfl ?_
  refine va_put (D := D) (ci := 1) (v := .int (iI (((dl (kfY X n) : Nat) : Int)))) (ty := .int) (C := R_Ed) (T := T_Ed) (N := 5) hx hb hts (fun w h => List.mem_cons_of_mem _ (in_Ed w h)) y_Ed t_Ed n_Ed hown hK hP hD hS 0 rfl rfl 1 (by decide) (hts _ (List.mem_cons_of_mem _ tw_41)) (fun _ h9 => h9) rfl (by decide +kernel) rfl rfl (Nat.le_of_ble_eq_true rfl) d_Ed_keepFirst_13 (fun H locs hP hD hS => ?_)
  have hP : va_P D ecl [(x, .inr (1, [.ref dg, .int (iI (((dl (kfY X n) : Nat) : Int))), .int (iI (pt)), .int (iI (zl)), .ref q])), (dg, .inl (cB, 1200, .inl g))] H := hP
  have hD : va_D A [(x, .inr (1, [.ref dg, .int (iI (((dl (kfY X n) : Nat) : Int))), .int (iI (pt)), .int (iI (zl)), .ref q])), (dg, .inl (cB, 1200, .inl g))] := hD
  refine lv_aload_n hx hb d_Ed_keepFirst_16 rfl (lv_at hl 0 rfl) ?_
  refine lv_iconst (v := iI 0) hx hb d_Ed_keepFirst_17 rfl ?_
  refine va_put (D := D) (ci := 1) (v := .int (iI (0))) (ty := .boolean) (C := R_Ed) (T := T_Ed) (N := 5) hx hb hts (fun w h => List.mem_cons_of_mem _ (in_Ed w h)) y_Ed t_Ed n_Ed hown hK hP hD hS 0 rfl rfl 3 (by decide) (hts _ (List.mem_cons_of_mem _ tw_43)) (fun _ h9 => h9) rfl (by decide +kernel) (by decide +kernel) (by decide +kernel) (Nat.le_of_ble_eq_true rfl) d_Ed_keepFirst_18 (fun H locs hP hD hS => ?_)
  have hP : va_P D ecl [(x, .inr (1, [.ref dg, .int (iI (((dl (kfY X n) : Nat) : Int))), .int (iI (pt)), .int (iI (0)), .ref q])), (dg, .inl (cB, 1200, .inl g))] H := hP
  have hD : va_D A [(x, .inr (1, [.ref dg, .int (iI (((dl (kfY X n) : Nat) : Int))), .int (iI (pt)), .int (iI (0)), .ref q])), (dg, .inl (cB, 1200, .inl g))] := hD
  refine lv_aload_n hx hb d_Ed_keepFirst_21 rfl (lv_at hl 0 rfl) ?_
  refine c_fv (wc := [(x, .inr (1, [.ref dg, .int (iI (((dl (kfY X n) : Nat) : Int))), .int (iI (pt)), .int (iI (0)), .ref q])), (dg, .inl (cB, 1200, .inl g))]) (wr := []) (va_runV (C := "ExactDigits") (As := []) (rest := []) ⟨hx, hb, hml, hown, hts⟩ (c_Ed_dropZerosBehind l D cB cI cJ t5 ad x dg q g pt 0 (kfY X n) hk9.1 hk9.2 H.size) (cwV 0 hts (gV tw_87 tw_89 ts_1 tw_1 tw_90) rfl rfl rfl (by decide +kernel) ⟨Nat.le_of_ble_eq_true rfl, Nat.le_of_ble_eq_true rfl⟩) ⟨c_blind (eX_X t5 ad), va_recv (ci := 1) (q0 := 0) hK hP rfl rfl, fun U hU hW => c_pre (wc := [(x, .inr (1, [.ref dg, .int (iI (((dl (kfY X n) : Nat) : Int))), .int (iI (pt)), .int (iI (0)), .ref q])), (dg, .inl (cB, 1200, .inl g))]) (eX_X t5 ad) hE hK hP hD hS hA [0, 1] rfl (by decide) U hU hW⟩ rfl rfl hl.1 rfl (lv_room (Nat.le_of_ble_eq_true rfl)) d_Ed_keepFirst_22 ⟨Nat.le_of_ble_eq_true rfl, Nat.le_of_ble_eq_true rfl⟩) hP hD hS hA [0, 1] [] rfl rfl (by decide) (by decide) (fun u H locs hp hP hD hS => ?_)
  obtain ⟨hdz, rfl⟩ := hp
  have hP : va_P D ecl [(x, .inr (1, [.ref dg, .int (iI (((dl (rz (kfY X n)) : Nat) : Int))), .int (iI (if kfY X n = 0 then 0 else pt)), .int (iI (0)), .ref q])), (dg, .inl (cB, 1200, .inl g))] H := hP
  have hD : va_D A [(x, .inr (1, [.ref dg, .int (iI (((dl (rz (kfY X n)) : Nat) : Int))), .int (iI (if kfY X n = 0 then 0 else pt)), .int (iI (0)), .ref q])), (dg, .inl (cB, 1200, .inl g))] := hD
  exact W.vret hx hb hr (fun t9 ht9 hW9 => ⟨⟨[(x, .inr (1, [.ref dg, .int (iI (((dl (rz (kfY X n)) : Nat) : Int))), .int (iI (if kfY X n = 0 then 0 else pt)), .int (iI (0)), .ref q])), (dg, .inl (cB, 1200, .inl g))], rfl, ⟨nm_rz hk9.1 hdz, rfl⟩, by rw [ht9]; exact hP, hD⟩, hS.F ht9⟩) hS.2.2 d_Ed_keepFirst_25
set_option maxHeartbeats 4000000 in
set_option maxRecDepth 100000 in
theorem c_Ed_keepFirstAndOneMore (l : Launch) (D : va_G) (cB cI cJ : ClassId) (t5 : Nat) (ad : Nat → Nat) (x dg q : Nat) (g : Nat → Int32) (pt zl : Int) (X n : Nat) (hn : nm_ok g X) (hnd : n ≤ dl X) : c_V l m_Ed_keepFirstAndOneMore (Cond.code m_Ed_keepFirstAndOneMore b_Ed_keepFirstAndOneMore 3 none :: gw) (rm_ 0 0) (eX t5 ad) D ecl (tyS cB cI cJ) [.ref x, .int (iI ((n : Int)))] [(x, .inr (1, [.ref dg, .int (iI (((dl X : Nat) : Int))), .int (iI (pt)), .int (iI (zl)), .ref q])), (dg, .inl (cB, 1200, .inl g))] (fun u => ∃ g' : Nat → Int32, nm_ok g' (rz (X / 10 ^ (dl X - n) + 1)) ∧ u = [(x, .inr (1, [.ref dg, .int (iI (((dl (rz (X / 10 ^ (dl X - n) + 1)) : Nat) : Int))), .int (iI (if (X / 10 ^ (dl X - n) + 1) = 10 ^ n then pt + 1 else pt)), .int (iI (0)), .ref q])), (dg, .inl (cB, 1200, .inl g'))]) 0 0 := by
  intro sz0
  refine Met.ofW (cc := b_Ed_keepFirstAndOneMore) (maxL := 3) (ret := none) (by decide) rfl ?_
  intro p e s m args below meth c s₁ B hml hv
  obtain ⟨rfl, hsz, hP, hK, hD0, hE⟩ := hv
  have hx := B.exec
  have hb := B.bytes
  have hr := B.returns
  have hts := atoms_spec (ws := Cond.code m_Ed_keepFirstAndOneMore b_Ed_keepFirstAndOneMore 3 none :: gw) B.pre
  have hown : s.vm.findClass R_Ed = some m.cls := findClass_of_methodNamed B.named
  have hlocks := B.notSynchronized
  subst hsz
  have hD := hD0.self (sz := s.heap.size)
  generalize hAe : va_A [(x, .inr (1, [.ref dg, .int (iI (((dl X : Nat) : Int))), .int (iI (pt)), .int (iI (zl)), .ref q])), (dg, .inl (cB, 1200, .inl g))] s.heap.size = A at hD hE ⊢
  have hA : ∀ q : Nat, s.heap.size ≤ q → A q := fun q h => by rw [← hAe]; exact Or.inr h
  have hS : va_S A s.heap s.heap [] := va_S.rf
  have hl := lv_entry ([.ref x, .int (iI ((n : Int)))]) (n := 3) (Nat.le_of_ble_eq_true rfl)
  rw [lg_entry_eq]
  generalize (lg_sl ([.ref x, .int (iI ((n : Int)))]) ++ List.replicate (3 - (lg_sl ([.ref x, .int (iI ((n : Int)))])).length) Slot.unset).toArray = ls at hl ⊢
  have hl : lv_has ls 3 [(0, .ref x), (1, .int (iI ((n : Int))))] := hl
  have hd12 := hn.1
  have L4 : ∀ (n9 : Nat) (j : Nat) (zj : Int) (ls : Array Slot) (H : Heap) (locs : List Loc), j = n9 → (zj = (j : Int) - 1) → (j ≤ n) → (X / 10 ^ (dl X - n) + 1 = (X / 10 ^ (dl X - j) + 1) * 10 ^ (n - j)) → lv_has ls 3 [(0, .ref x), (2, .int (iI (zj)))] → va_P D ecl [(x, .inr (1, [.ref dg, .int (iI (((dl X : Nat) : Int))), .int (iI (pt)), .int (iI (zl)), .ref q])), (dg, .inl (cB, 1200, .inl g))] H → va_D A [(x, .inr (1, [.ref dg, .int (iI (((dl X : Nat) : Int))), .int (iI (pt)), .int (iI (zl)), .ref q])), (dg, .inl (cB, 1200, .inl g))] → va_S A s.heap H locs → W p l e (headSpec (Cond.code m_Ed_keepFirstAndOneMore b_Ed_keepFirstAndOneMore 3 none :: gw) (rm_ 0 0)).room s m ([.ref x, .int (iI ((n : Int)))] : List Value).toArray below meth c H locs 0 0 (MQ below (va_Qv (fun u => ∃ g' : Nat → Int32, nm_ok g' (rz (X / 10 ^ (dl X - n) + 1)) ∧ u = [(x, .inr (1, [.ref dg, .int (iI (((dl (rz (X / 10 ^ (dl X - n) + 1)) : Nat) : Int))), .int (iI (if (X / 10 ^ (dl X - n) + 1) = 10 ^ n then pt + 1 else pt)), .int (iI (0)), .ref q])), (dg, .inl (cB, 1200, .inl g'))]) (c_B D ecl A) A) ([.ref x, .int (iI ((n : Int)))] : List Value).toArray s 0 0 A) (F0 m 4 ls []) := by
    intro n9
    induction n9 using Nat.strongRecOn with
    | ind n9 ih =>
    intro j zj ls H locs hn9 hj hjn hom hl hP hD hS
    refine lv_iload_n hx hb d_Ed_keepFirstAndOneMore_4 rfl (lv_at hl 1 rfl) ?_
    refine ed_if_lt (tgt := 25) hx hb d_Ed_keepFirstAndOneMore_5 rfl (by omega) (fun h_1 => ?_) (fun h_1 => ?_)
    · skip
      refine ed_pc (pc' := 25) rfl ?_
      refine lv_iload_n hx hb d_Ed_keepFirstAndOneMore_25 rfl (lv_at hl 1 rfl) ?_
      refine ed_if_ge (tgt := 54) hx hb d_Ed_keepFirstAndOneMore_26 rfl (by omega) (fun h_2 => ?_) (fun h_2 => ?_)
      · skip
        refine ed_pc (pc' := 54) rfl ?_
        obtain ⟨d, hd0⟩ : ∃ d : Nat, d = X / 10 ^ (dl X - j) % 10 := ⟨_, rfl⟩
        have hd9 : d < 10 := by rw [hd0]; exact dg_lt _ _
        refine lv_aload_n hx hb d_Ed_keepFirstAndOneMore_54 rfl (lv_at hl 0 rfl) ?_
        refine va_get (D := D) (ci := 1) (v := .ref dg) (C := R_Ed) (T := T_Ed) (N := 5) hx hb hts (fun w h => List.mem_cons_of_mem _ (in_Ed w h)) hown hK hP 0 rfl rfl 0 (by decide) (hts _ (List.mem_cons_of_mem _ tw_40)) (fun _ h9 => h9) rfl d_Ed_keepFirstAndOneMore_55 ?_
        refine lv_iload_n hx hb d_Ed_keepFirstAndOneMore_58 rfl (lv_at hl 1 rfl) ?_
        refine ed_pc (pc' := 59) rfl ?_
        refine lv_dup2_11 hx hb d_Ed_keepFirstAndOneMore_59 rfl rfl ?_
        refine ed_bald (y := (d : Int)) hx hb hK hP 1 0 rfl rfl (j - 1) (by omega) (by omega) (by decide) (by rw [hd0, hn.2.2 (j - 1) (by omega), show dl X - 1 - (j - 1) = dl X - j by omega]) d_Ed_keepFirstAndOneMore_60 ?_
        refine lv_iconst (v := iI 1) hx hb d_Ed_keepFirstAndOneMore_61 rfl ?_
        refine ed_iadd hx hb d_Ed_keepFirstAndOneMore_62 ?_
        refine ed_i2b hx hb d_Ed_keepFirstAndOneMore_63 (by omega) ?_
        refine ed_tz (y := ((d + 1 : Nat) : Int)) (by omega) ?_
        refine ed_bast hx hb hK hP hD hS 1 0 rfl rfl (j - 1) (by omega) (by omega) (by decide) (by omega) d_Ed_keepFirstAndOneMore_64 (fun H locs hP hD hS => ?_)
        have hP : va_P D ecl [(x, .inr (1, [.ref dg, .int (iI (((dl X : Nat) : Int))), .int (iI (pt)), .int (iI (zl)), .ref q])), (dg, .inl (cB, 1200, .inl (upd g (j - 1) ((iI (((d + 1 : Nat) : Int)))))))] H := hP
        have hD : va_D A [(x, .inr (1, [.ref dg, .int (iI (((dl X : Nat) : Int))), .int (iI (pt)), .int (iI (zl)), .ref q])), (dg, .inl (cB, 1200, .inl (upd g (j - 1) ((iI (((d + 1 : Nat) : Int)))))))] := hD
        refine lv_aload_n hx hb d_Ed_keepFirstAndOneMore_65 rfl (lv_at hl 0 rfl) ?_
        refine lv_iload_n hx hb d_Ed_keepFirstAndOneMore_66 rfl (lv_at hl 1 rfl) ?_
        refine ed_pc (pc' := 67) rfl ?_
        refine lv_iconst (v := iI 1) hx hb d_Ed_keepFirstAndOneMore_67 rfl ?_
        refine ed_iadd hx hb d_Ed_keepFirstAndOneMore_68 ?_
        refine va_put (D := D) (ci := 1) (v := .int (iI ((zj) + (1)))) (ty := .int) (C := R_Ed) (T := T_Ed) (N := 5) hx hb hts (fun w h => List.mem_cons_of_mem _ (in_Ed w h)) y_Ed t_Ed n_Ed hown hK hP hD hS 0 rfl rfl 1 (by decide) (hts _ (List.mem_cons_of_mem _ tw_41)) (fun _ h9 => h9) rfl (by decide +kernel) rfl rfl (Nat.le_of_ble_eq_true rfl) d_Ed_keepFirstAndOneMore_69 (fun H locs hP hD hS => ?_)
        have hP : va_P D ecl [(x, .inr (1, [.ref dg, .int (iI ((zj) + (1))), .int (iI (pt)), .int (iI (zl)), .ref q])), (dg, .inl (cB, 1200, .inl (upd g (j - 1) ((iI (((d + 1 : Nat) : Int)))))))] H := hP
        have hD : va_D A [(x, .inr (1, [.ref dg, .int (iI ((zj) + (1))), .int (iI (pt)), .int (iI (zl)), .ref q])), (dg, .inl (cB, 1200, .inl (upd g (j - 1) ((iI (((d + 1 : Nat) : Int)))))))] := hD
        refine lv_aload_n hx hb d_Ed_keepFirstAndOneMore_72 rfl (lv_at hl 0 rfl) ?_
        refine lv_iconst (v := iI 0) hx hb d_Ed_keepFirstAndOneMore_73 rfl ?_
        refine va_put (D := D) (ci := 1) (v := .int (iI (0))) (ty := .boolean) (C := R_Ed) (T := T_Ed) (N := 5) hx hb hts (fun w h => List.mem_cons_of_mem _ (in_Ed w h)) y_Ed t_Ed n_Ed hown hK hP hD hS 0 rfl rfl 3 (by decide) (hts _ (List.mem_cons_of_mem _ tw_43)) (fun _ h9 => h9) rfl (by decide +kernel) (by decide +kernel) (by decide +kernel) (Nat.le_of_ble_eq_true rfl) d_Ed_keepFirstAndOneMore_74 (fun H locs hP hD hS => ?_)
        have hP : va_P D ecl [(x, .inr (1, [.ref dg, .int (iI ((zj) + (1))), .int (iI (pt)), .int (iI (0)), .ref q])), (dg, .inl (cB, 1200, .inl (upd g (j - 1) ((iI (((d + 1 : Nat) : Int)))))))] H := hP
        have hD : va_D A [(x, .inr (1, [.ref dg, .int (iI ((zj) + (1))), .int (iI (pt)), .int (iI (0)), .ref q])), (dg, .inl (cB, 1200, .inl (upd g (j - 1) ((iI (((d + 1 : Nat) : Int)))))))] := hD
        obtain ⟨o1, o2, o3, o4⟩ := om_b hn (show 0 < j by omega) (show j ≤ dl X by omega) hjn hd0 (by omega) hom
        exact W.vret hx hb hr (fun t9 ht9 hW9 => ⟨⟨[(x, .inr (1, [.ref dg, .int (iI ((zj) + (1))), .int (iI (pt)), .int (iI (0)), .ref q])), (dg, .inl (cB, 1200, .inl (upd g (j - 1) ((iI (((d + 1 : Nat) : Int)))))))], rfl, ⟨upd g (j - 1) (iI ((d + 1 : Nat) : Int)), by rw [o1]; exact o4, by rw [o1, o2, if_neg o3, show (zj) + (1) = ((j : Nat) : Int) by omega]⟩, by rw [ht9]; exact hP, hD⟩, hS.F ht9⟩) hS.2.2 d_Ed_keepFirstAndOneMore_77
      · skip
        refine ed_pc (pc' := 29) rfl ?_
        refine lv_aload_n hx hb d_Ed_keepFirstAndOneMore_29 rfl (lv_at hl 0 rfl) ?_
        refine va_get (D := D) (ci := 1) (v := .ref dg) (C := R_Ed) (T := T_Ed) (N := 5) hx hb hts (fun w h => List.mem_cons_of_mem _ (in_Ed w h)) hown hK hP 0 rfl rfl 0 (by decide) (hts _ (List.mem_cons_of_mem _ tw_40)) (fun _ h9 => h9) rfl d_Ed_keepFirstAndOneMore_30 ?_
        refine lv_iconst (v := iI 0) hx hb d_Ed_keepFirstAndOneMore_33 rfl ?_
        refine ed_pc (pc' := 34) rfl ?_
        refine lv_iconst (v := iI 1) hx hb d_Ed_keepFirstAndOneMore_34 rfl ?_
        refine ed_bast hx hb hK hP hD hS 1 0 rfl rfl (0) (by omega) (by omega) (by decide) (by omega) d_Ed_keepFirstAndOneMore_35 (fun H locs hP hD hS => ?_)
        have hP : va_P D ecl [(x, .inr (1, [.ref dg, .int (iI (((dl X : Nat) : Int))), .int (iI (pt)), .int (iI (zl)), .ref q])), (dg, .inl (cB, 1200, .inl (upd g (0) ((iI (1))))))] H := hP
        have hD : va_D A [(x, .inr (1, [.ref dg, .int (iI (((dl X : Nat) : Int))), .int (iI (pt)), .int (iI (zl)), .ref q])), (dg, .inl (cB, 1200, .inl (upd g (0) ((iI (1))))))] := hD
        refine lv_aload_n hx hb d_Ed_keepFirstAndOneMore_36 rfl (lv_at hl 0 rfl) ?_
        refine lv_iconst (v := iI 1) hx hb d_Ed_keepFirstAndOneMore_37 rfl ?_
        refine va_put (D := D) (ci := 1) (v := .int (iI (1))) (ty := .int) (C := R_Ed) (T := T_Ed) (N := 5) hx hb hts (fun w h => List.mem_cons_of_mem _ (in_Ed w h)) y_Ed t_Ed n_Ed hown hK hP hD hS 0 rfl rfl 1 (by decide) (hts _ (List.mem_cons_of_mem _ tw_41)) (fun _ h9 => h9) rfl (by decide +kernel) rfl rfl (Nat.le_of_ble_eq_true rfl) d_Ed_keepFirstAndOneMore_38 (fun H locs hP hD hS => ?_)
        have hP : va_P D ecl [(x, .inr (1, [.ref dg, .int (iI (1)), .int (iI (pt)), .int (iI (zl)), .ref q])), (dg, .inl (cB, 1200, .inl (upd g (0) ((iI (1))))))] H := hP
        have hD : va_D A [(x, .inr (1, [.ref dg, .int (iI (1)), .int (iI (pt)), .int (iI (zl)), .ref q])), (dg, .inl (cB, 1200, .inl (upd g (0) ((iI (1))))))] := hD
        refine lv_aload_n hx hb d_Ed_keepFirstAndOneMore_41 rfl (lv_at hl 0 rfl) ?_
        refine lv_dup hx hb d_Ed_keepFirstAndOneMore_42 rfl ?_
        refine va_get (D := D) (ci := 1) (v := .int (iI (pt))) (C := R_Ed) (T := T_Ed) (N := 5) hx hb hts (fun w h => List.mem_cons_of_mem _ (in_Ed w h)) hown hK hP 0 rfl rfl 2 (by decide) (hts _ (List.mem_cons_of_mem _ tw_42)) (fun _ h9 => h9) rfl d_Ed_keepFirstAndOneMore_43 ?_
        refine ed_pc (pc' := 46) rfl ?_
        refine lv_iconst (v := iI 1) hx hb d_Ed_keepFirstAndOneMore_46 rfl ?_
        refine ed_iadd hx hb d_Ed_keepFirstAndOneMore_47 ?_
        refine va_put (D := D) (ci := 1) (v := .int (iI ((pt) + (1)))) (ty := .int) (C := R_Ed) (T := T_Ed) (N := 5) hx hb hts (fun w h => List.mem_cons_of_mem _ (in_Ed w h)) y_Ed t_Ed n_Ed hown hK hP hD hS 0 rfl rfl 2 (by decide) (hts _ (List.mem_cons_of_mem _ tw_42)) (fun _ h9 => h9) rfl (by decide +kernel) rfl rfl (Nat.le_of_ble_eq_true rfl) d_Ed_keepFirstAndOneMore_48 (fun H locs hP hD hS => ?_)
        have hP : va_P D ecl [(x, .inr (1, [.ref dg, .int (iI (1)), .int (iI ((pt) + (1))), .int (iI (zl)), .ref q])), (dg, .inl (cB, 1200, .inl (upd g (0) ((iI (1))))))] H := hP
        have hD : va_D A [(x, .inr (1, [.ref dg, .int (iI (1)), .int (iI ((pt) + (1))), .int (iI (zl)), .ref q])), (dg, .inl (cB, 1200, .inl (upd g (0) ((iI (1))))))] := hD
        refine lv_goto (tgt := 72) hx hb d_Ed_keepFirstAndOneMore_51 rfl ?_
        refine lv_aload_n hx hb d_Ed_keepFirstAndOneMore_72 rfl (lv_at hl 0 rfl) ?_
        refine lv_iconst (v := iI 0) hx hb d_Ed_keepFirstAndOneMore_73 rfl ?_
        refine va_put (D := D) (ci := 1) (v := .int (iI (0))) (ty := .boolean) (C := R_Ed) (T := T_Ed) (N := 5) hx hb hts (fun w h => List.mem_cons_of_mem _ (in_Ed w h)) y_Ed t_Ed n_Ed hown hK hP hD hS 0 rfl rfl 3 (by decide) (hts _ (List.mem_cons_of_mem _ tw_43)) (fun _ h9 => h9) rfl (by decide +kernel) (by decide +kernel) (by decide +kernel) (Nat.le_of_ble_eq_true rfl) d_Ed_keepFirstAndOneMore_74 (fun H locs hP hD hS => ?_)
        have hP : va_P D ecl [(x, .inr (1, [.ref dg, .int (iI (1)), .int (iI ((pt) + (1))), .int (iI (0)), .ref q])), (dg, .inl (cB, 1200, .inl (upd g (0) ((iI (1))))))] H := hP
        have hD : va_D A [(x, .inr (1, [.ref dg, .int (iI (1)), .int (iI ((pt) + (1))), .int (iI (0)), .ref q])), (dg, .inl (cB, 1200, .inl (upd g (0) ((iI (1))))))] := hD
        have hj0 : j = 0 := by omega
        rw [hj0] at hom
        have hY := om_a hom
        exact W.vret hx hb hr (fun t9 ht9 hW9 => ⟨⟨[(x, .inr (1, [.ref dg, .int (iI (1)), .int (iI ((pt) + (1))), .int (iI (0)), .ref q])), (dg, .inl (cB, 1200, .inl (upd g (0) ((iI (1))))))], rfl, ⟨upd g 0 (iI 1), by rw [hY, rz_p10]; exact (nm_1 g).1, by rw [hY, rz_p10, (nm_1 g).2, if_pos rfl]; rfl⟩, by rw [ht9]; exact hP, hD⟩, hS.F ht9⟩) hS.2.2 d_Ed_keepFirstAndOneMore_77
    · skip
      refine ed_pc (pc' := 8) rfl ?_
      obtain ⟨d, hd0⟩ : ∃ d : Nat, d = X / 10 ^ (dl X - j) % 10 := ⟨_, rfl⟩
      have hd9 : d < 10 := by rw [hd0]; exact dg_lt _ _
      refine lv_aload_n hx hb d_Ed_keepFirstAndOneMore_8 rfl (lv_at hl 0 rfl) ?_
      refine va_get (D := D) (ci := 1) (v := .ref dg) (C := R_Ed) (T := T_Ed) (N := 5) hx hb hts (fun w h => List.mem_cons_of_mem _ (in_Ed w h)) hown hK hP 0 rfl rfl 0 (by decide) (hts _ (List.mem_cons_of_mem _ tw_40)) (fun _ h9 => h9) rfl d_Ed_keepFirstAndOneMore_9 ?_
      refine lv_iload_n hx hb d_Ed_keepFirstAndOneMore_12 rfl (lv_at hl 1 rfl) ?_
      refine ed_bald (y := (d : Int)) hx hb hK hP 1 0 rfl rfl (j - 1) (by omega) (by omega) (by decide) (by rw [hd0, hn.2.2 (j - 1) (by omega), show dl X - 1 - (j - 1) = dl X - j by omega]) d_Ed_keepFirstAndOneMore_13 ?_
      refine lv_bipush (v := iI 9) hx hb d_Ed_keepFirstAndOneMore_14 (by decide +kernel) ?_
      refine ed_pc (pc' := 16) rfl ?_
      refine ed_icmp_ne (tgt := 25) hx hb d_Ed_keepFirstAndOneMore_16 rfl (by omega) (by omega) (fun h_3 => ?_) (fun h_3 => ?_)
      · skip
        refine ed_pc (pc' := 25) rfl ?_
        refine lv_iload_n hx hb d_Ed_keepFirstAndOneMore_25 rfl (lv_at hl 1 rfl) ?_
        refine ed_if_ge (tgt := 54) hx hb d_Ed_keepFirstAndOneMore_26 rfl (by omega) (fun h_4 => ?_) (fun h_4 => ?_)
        · skip
          refine ed_pc (pc' := 54) rfl ?_
          obtain ⟨d, hd0⟩ : ∃ d : Nat, d = X / 10 ^ (dl X - j) % 10 := ⟨_, rfl⟩
          have hd9 : d < 10 := by rw [hd0]; exact dg_lt _ _
          refine lv_aload_n hx hb d_Ed_keepFirstAndOneMore_54 rfl (lv_at hl 0 rfl) ?_
          refine va_get (D := D) (ci := 1) (v := .ref dg) (C := R_Ed) (T := T_Ed) (N := 5) hx hb hts (fun w h => List.mem_cons_of_mem _ (in_Ed w h)) hown hK hP 0 rfl rfl 0 (by decide) (hts _ (List.mem_cons_of_mem _ tw_40)) (fun _ h9 => h9) rfl d_Ed_keepFirstAndOneMore_55 ?_
          refine lv_iload_n hx hb d_Ed_keepFirstAndOneMore_58 rfl (lv_at hl 1 rfl) ?_
          refine lv_dup2_11 hx hb d_Ed_keepFirstAndOneMore_59 rfl rfl ?_
          refine ed_bald (y := (d : Int)) hx hb hK hP 1 0 rfl rfl (j - 1) (by omega) (by omega) (by decide) (by rw [hd0, hn.2.2 (j - 1) (by omega), show dl X - 1 - (j - 1) = dl X - j by omega]) d_Ed_keepFirstAndOneMore_60 ?_
          refine ed_pc (pc' := 61) rfl ?_
          refine lv_iconst (v := iI 1) hx hb d_Ed_keepFirstAndOneMore_61 rfl ?_
          refine ed_iadd hx hb d_Ed_keepFirstAndOneMore_62 ?_
          refine ed_i2b hx hb d_Ed_keepFirstAndOneMore_63 (by omega) ?_
          refine ed_tz (y := ((d + 1 : Nat) : Int)) (by omega) ?_
          refine ed_bast hx hb hK hP hD hS 1 0 rfl rfl (j - 1) (by omega) (by omega) (by decide) (by omega) d_Ed_keepFirstAndOneMore_64 (fun H locs hP hD hS => ?_)
          have hP : va_P D ecl [(x, .inr (1, [.ref dg, .int (iI (((dl X : Nat) : Int))), .int (iI (pt)), .int (iI (zl)), .ref q])), (dg, .inl (cB, 1200, .inl (upd g (j - 1) ((iI (((d + 1 : Nat) : Int)))))))] H := hP
          have hD : va_D A [(x, .inr (1, [.ref dg, .int (iI (((dl X : Nat) : Int))), .int (iI (pt)), .int (iI (zl)), .ref q])), (dg, .inl (cB, 1200, .inl (upd g (j - 1) ((iI (((d + 1 : Nat) : Int)))))))] := hD
          refine lv_aload_n hx hb d_Ed_keepFirstAndOneMore_65 rfl (lv_at hl 0 rfl) ?_
          refine lv_iload_n hx hb d_Ed_keepFirstAndOneMore_66 rfl (lv_at hl 1 rfl) ?_
          refine lv_iconst (v := iI 1) hx hb d_Ed_keepFirstAndOneMore_67 rfl ?_
          refine ed_iadd hx hb d_Ed_keepFirstAndOneMore_68 ?_
          refine ed_pc (pc' := 69) rfl ?_
          refine va_put (D := D) (ci := 1) (v := .int (iI ((zj) + (1)))) (ty := .int) (C := R_Ed) (T := T_Ed) (N := 5) hx hb hts (fun w h => List.mem_cons_of_mem _ (in_Ed w h)) y_Ed t_Ed n_Ed hown hK hP hD hS 0 rfl rfl 1 (by decide) (hts _ (List.mem_cons_of_mem _ tw_41)) (fun _ h9 => h9) rfl (by decide +kernel) rfl rfl (Nat.le_of_ble_eq_true rfl) d_Ed_keepFirstAndOneMore_69 (fun H locs hP hD hS => ?_)
          have hP : va_P D ecl [(x, .inr (1, [.ref dg, .int (iI ((zj) + (1))), .int (iI (pt)), .int (iI (zl)), .ref q])), (dg, .inl (cB, 1200, .inl (upd g (j - 1) ((iI (((d + 1 : Nat) : Int)))))))] H := hP
          have hD : va_D A [(x, .inr (1, [.ref dg, .int (iI ((zj) + (1))), .int (iI (pt)), .int (iI (zl)), .ref q])), (dg, .inl (cB, 1200, .inl (upd g (j - 1) ((iI (((d + 1 : Nat) : Int)))))))] := hD
          refine lv_aload_n hx hb d_Ed_keepFirstAndOneMore_72 rfl (lv_at hl 0 rfl) ?_
          refine lv_iconst (v := iI 0) hx hb d_Ed_keepFirstAndOneMore_73 rfl ?_
          refine va_put (D := D) (ci := 1) (v := .int (iI (0))) (ty := .boolean) (C := R_Ed) (T := T_Ed) (N := 5) hx hb hts (fun w h => List.mem_cons_of_mem _ (in_Ed w h)) y_Ed t_Ed n_Ed hown hK hP hD hS 0 rfl rfl 3 (by decide) (hts _ (List.mem_cons_of_mem _ tw_43)) (fun _ h9 => h9) rfl (by decide +kernel) (by decide +kernel) (by decide +kernel) (Nat.le_of_ble_eq_true rfl) d_Ed_keepFirstAndOneMore_74 (fun H locs hP hD hS => ?_)
          have hP : va_P D ecl [(x, .inr (1, [.ref dg, .int (iI ((zj) + (1))), .int (iI (pt)), .int (iI (0)), .ref q])), (dg, .inl (cB, 1200, .inl (upd g (j - 1) ((iI (((d + 1 : Nat) : Int)))))))] H := hP
          have hD : va_D A [(x, .inr (1, [.ref dg, .int (iI ((zj) + (1))), .int (iI (pt)), .int (iI (0)), .ref q])), (dg, .inl (cB, 1200, .inl (upd g (j - 1) ((iI (((d + 1 : Nat) : Int)))))))] := hD
          obtain ⟨o1, o2, o3, o4⟩ := om_b hn (show 0 < j by omega) (show j ≤ dl X by omega) hjn hd0 (by omega) hom
          exact W.vret hx hb hr (fun t9 ht9 hW9 => ⟨⟨[(x, .inr (1, [.ref dg, .int (iI ((zj) + (1))), .int (iI (pt)), .int (iI (0)), .ref q])), (dg, .inl (cB, 1200, .inl (upd g (j - 1) ((iI (((d + 1 : Nat) : Int)))))))], rfl, ⟨upd g (j - 1) (iI ((d + 1 : Nat) : Int)), by rw [o1]; exact o4, by rw [o1, o2, if_neg o3, show (zj) + (1) = ((j : Nat) : Int) by omega]⟩, by rw [ht9]; exact hP, hD⟩, hS.F ht9⟩) hS.2.2 d_Ed_keepFirstAndOneMore_77
        · skip
          refine ed_pc (pc' := 29) rfl ?_
          refine lv_aload_n hx hb d_Ed_keepFirstAndOneMore_29 rfl (lv_at hl 0 rfl) ?_
          refine va_get (D := D) (ci := 1) (v := .ref dg) (C := R_Ed) (T := T_Ed) (N := 5) hx hb hts (fun w h => List.mem_cons_of_mem _ (in_Ed w h)) hown hK hP 0 rfl rfl 0 (by decide) (hts _ (List.mem_cons_of_mem _ tw_40)) (fun _ h9 => h9) rfl d_Ed_keepFirstAndOneMore_30 ?_
          refine lv_iconst (v := iI 0) hx hb d_Ed_keepFirstAndOneMore_33 rfl ?_
          refine lv_iconst (v := iI 1) hx hb d_Ed_keepFirstAndOneMore_34 rfl ?_
          refine ed_bast hx hb hK hP hD hS 1 0 rfl rfl (0) (by omega) (by omega) (by decide) (by omega) d_Ed_keepFirstAndOneMore_35 (fun H locs hP hD hS => ?_)
          have hP : va_P D ecl [(x, .inr (1, [.ref dg, .int (iI (((dl X : Nat) : Int))), .int (iI (pt)), .int (iI (zl)), .ref q])), (dg, .inl (cB, 1200, .inl (upd g (0) ((iI (1))))))] H := hP
          have hD : va_D A [(x, .inr (1, [.ref dg, .int (iI (((dl X : Nat) : Int))), .int (iI (pt)), .int (iI (zl)), .ref q])), (dg, .inl (cB, 1200, .inl (upd g (0) ((iI (1))))))] := hD
          refine ed_pc (pc' := 36) rfl ?_
          refine lv_aload_n hx hb d_Ed_keepFirstAndOneMore_36 rfl (lv_at hl 0 rfl) ?_
          refine lv_iconst (v := iI 1) hx hb d_Ed_keepFirstAndOneMore_37 rfl ?_
          refine va_put (D := D) (ci := 1) (v := .int (iI (1))) (ty := .int) (C := R_Ed) (T := T_Ed) (N := 5) hx hb hts (fun w h => List.mem_cons_of_mem _ (in_Ed w h)) y_Ed t_Ed n_Ed hown hK hP hD hS 0 rfl rfl 1 (by decide) (hts _ (List.mem_cons_of_mem _ tw_41)) (fun _ h9 => h9) rfl (by decide +kernel) rfl rfl (Nat.le_of_ble_eq_true rfl) d_Ed_keepFirstAndOneMore_38 (fun H locs hP hD hS => ?_)
          have hP : va_P D ecl [(x, .inr (1, [.ref dg, .int (iI (1)), .int (iI (pt)), .int (iI (zl)), .ref q])), (dg, .inl (cB, 1200, .inl (upd g (0) ((iI (1))))))] H := hP
          have hD : va_D A [(x, .inr (1, [.ref dg, .int (iI (1)), .int (iI (pt)), .int (iI (zl)), .ref q])), (dg, .inl (cB, 1200, .inl (upd g (0) ((iI (1))))))] := hD
          refine lv_aload_n hx hb d_Ed_keepFirstAndOneMore_41 rfl (lv_at hl 0 rfl) ?_
          refine lv_dup hx hb d_Ed_keepFirstAndOneMore_42 rfl ?_
          refine va_get (D := D) (ci := 1) (v := .int (iI (pt))) (C := R_Ed) (T := T_Ed) (N := 5) hx hb hts (fun w h => List.mem_cons_of_mem _ (in_Ed w h)) hown hK hP 0 rfl rfl 2 (by decide) (hts _ (List.mem_cons_of_mem _ tw_42)) (fun _ h9 => h9) rfl d_Ed_keepFirstAndOneMore_43 ?_
          refine lv_iconst (v := iI 1) hx hb d_Ed_keepFirstAndOneMore_46 rfl ?_
          refine ed_iadd hx hb d_Ed_keepFirstAndOneMore_47 ?_
          refine ed_pc (pc' := 48) rfl ?_
          refine va_put (D := D) (ci := 1) (v := .int (iI ((pt) + (1)))) (ty := .int) (C := R_Ed) (T := T_Ed) (N := 5) hx hb hts (fun w h => List.mem_cons_of_mem _ (in_Ed w h)) y_Ed t_Ed n_Ed hown hK hP hD hS 0 rfl rfl 2 (by decide) (hts _ (List.mem_cons_of_mem _ tw_42)) (fun _ h9 => h9) rfl (by decide +kernel) rfl rfl (Nat.le_of_ble_eq_true rfl) d_Ed_keepFirstAndOneMore_48 (fun H locs hP hD hS => ?_)
          have hP : va_P D ecl [(x, .inr (1, [.ref dg, .int (iI (1)), .int (iI ((pt) + (1))), .int (iI (zl)), .ref q])), (dg, .inl (cB, 1200, .inl (upd g (0) ((iI (1))))))] H := hP
          have hD : va_D A [(x, .inr (1, [.ref dg, .int (iI (1)), .int (iI ((pt) + (1))), .int (iI (zl)), .ref q])), (dg, .inl (cB, 1200, .inl (upd g (0) ((iI (1))))))] := hD
          refine lv_goto (tgt := 72) hx hb d_Ed_keepFirstAndOneMore_51 rfl ?_
          refine lv_aload_n hx hb d_Ed_keepFirstAndOneMore_72 rfl (lv_at hl 0 rfl) ?_
          refine lv_iconst (v := iI 0) hx hb d_Ed_keepFirstAndOneMore_73 rfl ?_
          refine va_put (D := D) (ci := 1) (v := .int (iI (0))) (ty := .boolean) (C := R_Ed) (T := T_Ed) (N := 5) hx hb hts (fun w h => List.mem_cons_of_mem _ (in_Ed w h)) y_Ed t_Ed n_Ed hown hK hP hD hS 0 rfl rfl 3 (by decide) (hts _ (List.mem_cons_of_mem _ tw_43)) (fun _ h9 => h9) rfl (by decide +kernel) (by decide +kernel) (by decide +kernel) (Nat.le_of_ble_eq_true rfl) d_Ed_keepFirstAndOneMore_74 (fun H locs hP hD hS => ?_)
          have hP : va_P D ecl [(x, .inr (1, [.ref dg, .int (iI (1)), .int (iI ((pt) + (1))), .int (iI (0)), .ref q])), (dg, .inl (cB, 1200, .inl (upd g (0) ((iI (1))))))] H := hP
          have hD : va_D A [(x, .inr (1, [.ref dg, .int (iI (1)), .int (iI ((pt) + (1))), .int (iI (0)), .ref q])), (dg, .inl (cB, 1200, .inl (upd g (0) ((iI (1))))))] := hD
          have hj0 : j = 0 := by omega
          rw [hj0] at hom
          have hY := om_a hom
          exact W.vret hx hb hr (fun t9 ht9 hW9 => ⟨⟨[(x, .inr (1, [.ref dg, .int (iI (1)), .int (iI ((pt) + (1))), .int (iI (0)), .ref q])), (dg, .inl (cB, 1200, .inl (upd g (0) ((iI (1))))))], rfl, ⟨upd g 0 (iI 1), by rw [hY, rz_p10]; exact (nm_1 g).1, by rw [hY, rz_p10, (nm_1 g).2, if_pos rfl]; rfl⟩, by rw [ht9]; exact hP, hD⟩, hS.F ht9⟩) hS.2.2 d_Ed_keepFirstAndOneMore_77
      · skip
        refine ed_pc (pc' := 19) rfl ?_
        refine lv_iinc (k := 1) (v := iI (zj + (-1))) hx hb d_Ed_keepFirstAndOneMore_19 hl rfl (iI_add _ _) (by decide) rfl (fun ls hl => ?_)
        have hl : lv_has ls 3 [(2, .int (iI (zj + (-1)))), (0, .ref x)] := hl
        refine lv_goto (tgt := 4) hx hb d_Ed_keepFirstAndOneMore_22 rfl ?_
        have hl := lv_sub hl [1, 0] rfl
        exact ih _ (by omega) (j - 1) _ ls H locs rfl (by omega) (by omega) (om_s (by omega) (by omega) (by omega) (by rw [← hd0]; omega) hom) hl hP hD hS
  refine lv_iload_n hx hb d_Ed_keepFirstAndOneMore_0 rfl (lv_at hl 1 rfl) ?_
  refine lv_iconst (v := iI 1) hx hb d_Ed_keepFirstAndOneMore_1 rfl ?_
  refine ed_isub hx hb d_Ed_keepFirstAndOneMore_2 ?_
  refine lv_istore_n hx hb d_Ed_keepFirstAndOneMore_3 rfl hl (by decide) rfl (fun ls hl => ?_)
  have hl : lv_has ls 3 [(2, .int (iI (((n : Int)) - (1)))), (0, .ref x), (1, .int (iI ((n : Int))))] := hl
  have hl := lv_sub hl [1, 0] rfl
  exact L4 _ (n) _ ls s.heap [] rfl (rfl) (Nat.le_refl _) (by rw [Nat.sub_self, Nat.pow_zero, Nat.mul_one]) hl hP hD hS
