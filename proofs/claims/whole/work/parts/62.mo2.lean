set_option maxHeartbeats 4000000 in
set_option maxRecDepth 100000 in
theorem c_Ro_set (l : Launch) (D : va_G) (cB cI cJ : ClassId) (t5 : Nat) (ad : Nat → Nat) (r rd : Nat) (d : Nat → Int32) (zn pt : Int) (V : Nat) (hV : V < 2 ^ 64) : c_V l m_Ro_set (Cond.code m_Ro_set b_Ro_set 7 none :: gw) (rm_ 2 91) (eX t5 ad) D ecl (tyS cB cI cJ) [.ref r, .long (lN V)] [(r, .inr (3, [.ref rd, .int (iI (zn)), .int (iI (pt))])), (rd, .inl (cB, 4200, .inl d))] (fun u => ∃ d' : Nat → Int32, rw_ok d' (rz V) ∧ u = [(r, .inr (3, [.ref rd, .int (iI (((dl (rz V) : Nat) : Int))), .int (iI (if V = 0 then 0 else ((dl V : Nat) : Int)))])), (rd, .inl (cB, 4200, .inl d'))]) 0 0 := by
  intro sz0
  refine Met.ofW (cc := b_Ro_set) (maxL := 7) (ret := none) (by decide) rfl ?_
  intro p e s m args below meth c s₁ B hml hv
  obtain ⟨rfl, hsz, hP, hK, hD0, hE⟩ := hv
  have hx := B.exec
  have hb := B.bytes
  have hr := B.returns
  have hts := atoms_spec (ws := Cond.code m_Ro_set b_Ro_set 7 none :: gw) B.pre
  have hown : s.vm.findClass R_Ro = some m.cls := findClass_of_methodNamed B.named
  have hlocks := B.notSynchronized
  subst hsz
  have hD := hD0.self (sz := s.heap.size)
  generalize hAe : va_A [(r, .inr (3, [.ref rd, .int (iI (zn)), .int (iI (pt))])), (rd, .inl (cB, 4200, .inl d))] s.heap.size = A at hD hE ⊢
  have hA : ∀ q : Nat, s.heap.size ≤ q → A q := fun q h => by rw [← hAe]; exact Or.inr h
  have hS : va_S A s.heap s.heap [] := va_S.rf
  have hl := lv_entry ([.ref r, .long (lN V)]) (n := 7) (Nat.le_of_ble_eq_true rfl)
  rw [lg_entry_eq]
  generalize (lg_sl ([.ref r, .long (lN V)]) ++ List.replicate (7 - (lg_sl ([.ref r, .long (lN V)])).length) Slot.unset).toArray = ls at hl ⊢
  have hl : lv_has ls 7 [(0, .ref r), (1, .long (lN V))] := hl
  have hdV : dl V ≤ 20 := dl_bound (show V < 10 ^ 20 by omega)
  have L12 : ∀ (n9 : Nat) (j : Nat) (h : Nat → Int32) (y : Nat) (zj : Int) (zp : Int) (rv : Int64) (ls : Array Slot) (H : Heap) (locs : List Loc), dl V - j = n9 → (zj = (j : Int)) → (zp = (j : Int)) → (rv = lN y) → (y = V / 10 ^ j) → (j ≤ dl V) → (dg_ok h j (V % 10 ^ j)) → lv_has ls 7 [(0, .ref r), (3, .long (rv))] → va_P D ecl [(r, .inr (3, [.ref rd, .int (iI (zj)), .int (iI (zp))])), (rd, .inl (cB, 4200, .inl h))] H → va_D A [(r, .inr (3, [.ref rd, .int (iI (zj)), .int (iI (zp))])), (rd, .inl (cB, 4200, .inl h))] → va_S A s.heap H locs → W p l e (headSpec (Cond.code m_Ro_set b_Ro_set 7 none :: gw) (rm_ 2 91)).room s m ([.ref r, .long (lN V)] : List Value).toArray below meth c H locs 0 0 (MQ below (va_Qv (fun u => ∃ d' : Nat → Int32, rw_ok d' (rz V) ∧ u = [(r, .inr (3, [.ref rd, .int (iI (((dl (rz V) : Nat) : Int))), .int (iI (if V = 0 then 0 else ((dl V : Nat) : Int)))])), (rd, .inl (cB, 4200, .inl d'))]) (c_B D ecl A) A) ([.ref r, .long (lN V)] : List Value).toArray s 0 0 A) (F0 m 12 ls []) := by
    intro n9
    induction n9 using Nat.strongRecOn with
    | ind n9 ih =>
    intro j h y zj zp rv ls H locs hn9 hzj hzp hrv hy hj hh hl hP hD hS
    refine lv_lload_n hx hb d_Ro_set_12 rfl (lv_at hl 1 rfl) ?_
    refine lv_lconst (v := jI 0) hx hb d_Ro_set_13 (by decide +kernel) ?_
    refine ed_lifx_eq (tgt := 86) hx hb d_Ro_set_14 d_Ro_set_15 rfl (fun h_1 => ?_) (fun h_1 => ?_)
    · skip
      refine ed_pc (pc' := 86) rfl ?_
      refine lv_aload_n hx hb d_Ro_set_86 rfl (lv_at hl 0 rfl) ?_
      have hy64 : y < 2 ^ 64 := by rw [hy]; exact Nat.lt_of_le_of_lt (Nat.div_le_self _ _) hV
      have hy0 : y = 0 := (lN_0 hy64).mp (hrv.symm.trans h_1)
      have hVj : V < 10 ^ j := by
        rcases Nat.div_eq_zero_iff.mp (hy.symm.trans hy0) with z | z
        · exact absurd z (Nat.ne_of_gt (p10_pos j))
        · exact z
      have hjd : j = dl V := by have := dl_bound hVj; omega
      rw [Nat.mod_eq_of_lt hVj, hjd] at hh
      have hzj2 : zj = ((dl V : Nat) : Int) := by omega
      have hzp2 : zp = ((dl V : Nat) : Int) := by omega
      subst hzj2
      subst hzp2
      refine c_fv (wc := [(r, .inr (3, [.ref rd, .int (iI (((dl V : Nat) : Int))), .int (iI (((dl V : Nat) : Int)))])), (rd, .inl (cB, 4200, .inl h))]) (wr := []) (va_runV (C := "ExactDigitsModel$Row") (As := []) (rest := []) ⟨hx, hb, hml, hown, hts⟩ (c_Ro_trim l D cB cI cJ t5 ad r rd h ((dl V : Nat) : Int) V (by omega) hh H.size) (cwV 0 hts (gV tw_441 tw_442 tw_443 tw_4 tw_444) rfl rfl rfl (by decide +kernel) ⟨Nat.le_of_ble_eq_true rfl, Nat.le_of_ble_eq_true rfl⟩) ⟨c_blind (eX_X t5 ad), va_recv (ci := 3) (q0 := 0) hK hP rfl rfl, fun U hU hW => c_pre (wc := [(r, .inr (3, [.ref rd, .int (iI (((dl V : Nat) : Int))), .int (iI (((dl V : Nat) : Int)))])), (rd, .inl (cB, 4200, .inl h))]) (eX_X t5 ad) hE hK hP hD hS hA [0, 1] rfl (by decide) U hU hW⟩ rfl rfl hl.1 rfl (lv_room (Nat.le_of_ble_eq_true rfl)) d_Ro_set_87 ⟨Nat.le_of_ble_eq_true rfl, Nat.le_of_ble_eq_true rfl⟩) hP hD hS hA [0, 1] [] rfl rfl (by decide) (by decide) (fun u H locs hp hP hD hS => ?_)
      obtain ⟨hdz, rfl⟩ := hp
      have hP : va_P D ecl [(r, .inr (3, [.ref rd, .int (iI (((dl (rz V) : Nat) : Int))), .int (iI (if V = 0 then 0 else ((dl V : Nat) : Int)))])), (rd, .inl (cB, 4200, .inl h))] H := hP
      have hD : va_D A [(r, .inr (3, [.ref rd, .int (iI (((dl (rz V) : Nat) : Int))), .int (iI (if V = 0 then 0 else ((dl V : Nat) : Int)))])), (rd, .inl (cB, 4200, .inl h))] := hD
      exact W.vret hx hb hr (fun t9 ht9 hW9 => ⟨⟨[(r, .inr (3, [.ref rd, .int (iI (((dl (rz V) : Nat) : Int))), .int (iI (if V = 0 then 0 else ((dl V : Nat) : Int)))])), (rd, .inl (cB, 4200, .inl h))], rfl, ⟨h, ⟨rz_rz V, hdz⟩, rfl⟩, by rw [ht9]; exact hP, hD⟩, hS.F ht9⟩) hS.2.2 d_Ro_set_90
    · skip
      refine ed_pc (pc' := 18) rfl ?_
      have hy64 : y < 2 ^ 64 := by rw [hy]; exact Nat.lt_of_le_of_lt (Nat.div_le_self _ _) hV
      have hyp : 0 < y := by rcases Nat.eq_zero_or_pos y with z | z; exact absurd (hrv.trans ((lN_0 hy64).mpr z)) h_1; exact z
      have hjl : j < dl V := by
        rcases Nat.lt_or_ge V (10 ^ j) with z | z
        · rw [Nat.div_eq_of_lt z] at hy; omega
        · exact dl_ge z
      refine lv_lload_n hx hb d_Ro_set_18 rfl (lv_at hl 1 rfl) ?_
      refine lv_ldc2 (v := 10) hx hb hown (hts _ (List.mem_cons_of_mem _ tw_433)) d_Ro_set_19 ?_
      refine ed_tl (y := (jI (10))) (by decide +kernel) ?_
      subst hrv
      refine c_fl (wc := []) (wr := [(r, .inr (3, [.ref rd, .int (iI (zj)), .int (iI (zp))])), (rd, .inl (cB, 4200, .inl h))]) (va_runS (As := [.long (lN y), .long (jI (10))]) (rest := []) ⟨hx, hb, hml, hown, hts⟩ (c_Lo_div10 l D cB cI cJ t5 ad y hy64 H.size) (va_cwS 2 hts (gS tw_434 tw_435 tw_7 tw_436) rfl rfl rfl (by decide +kernel) ⟨Nat.le_of_ble_eq_true rfl, Nat.le_of_ble_eq_true rfl⟩) ⟨c_blind (eX_X t5 ad), fun U hU hW => c_pre (wc := []) (eX_X t5 ad) hE hK hP hD hS hA [] rfl (by decide) U hU hW⟩ rfl rfl hl.1 rfl (lv_room (Nat.le_of_ble_eq_true rfl)) d_Ro_set_22 ⟨Nat.le_of_ble_eq_true rfl, Nat.le_of_ble_eq_true rfl⟩) hP hD hS hA [] [0, 1] rfl rfl (by decide) (by decide) (fun r u H locs hp hP hD hS => ?_)
      obtain ⟨rfl, rfl⟩ := hp
      have hP : va_P D ecl [(r, .inr (3, [.ref rd, .int (iI (zj)), .int (iI (zp))])), (rd, .inl (cB, 4200, .inl h))] H := hP
      have hD : va_D A [(r, .inr (3, [.ref rd, .int (iI (zj)), .int (iI (zp))])), (rd, .inl (cB, 4200, .inl h))] := hD
      refine lv_lstore hx hb d_Ro_set_25 hl (by decide) rfl (fun ls hl => ?_)
      have hl : lv_has ls 7 [(5, .long (lN (y / 10))), (0, .ref r), (3, .long (lN y))] := hl
      refine ed_pc (pc' := 27) rfl ?_
      refine lv_aload_n hx hb d_Ro_set_27 rfl (lv_at hl 1 rfl) ?_
      refine va_get (D := D) (ci := 3) (v := .ref rd) (C := R_Ro) (T := T_Ro) (N := 3) hx hb hts (fun w h => List.mem_cons_of_mem _ (in_Ro w h)) hown hK hP 0 rfl rfl 0 (by decide) (hts _ (List.mem_cons_of_mem _ tw_359)) (fun _ h9 => h9) rfl d_Ro_set_28 ?_
      refine lv_iconst (v := iI 0) hx hb d_Ro_set_31 rfl ?_
      refine lv_aload_n hx hb d_Ro_set_32 rfl (lv_at hl 1 rfl) ?_
      refine va_get (D := D) (ci := 3) (v := .ref rd) (C := R_Ro) (T := T_Ro) (N := 3) hx hb hts (fun w h => List.mem_cons_of_mem _ (in_Ro w h)) hown hK hP 0 rfl rfl 0 (by decide) (hts _ (List.mem_cons_of_mem _ tw_359)) (fun _ h9 => h9) rfl d_Ro_set_33 ?_
      refine lv_iconst (v := iI 1) hx hb d_Ro_set_36 rfl ?_
      refine lv_aload_n hx hb d_Ro_set_37 rfl (lv_at hl 1 rfl) ?_
      refine va_get (D := D) (ci := 3) (v := .int (iI (zj))) (C := R_Ro) (T := T_Ro) (N := 3) hx hb hts (fun w h => List.mem_cons_of_mem _ (in_Ro w h)) hown hK hP 0 rfl rfl 1 (by decide) (hts _ (List.mem_cons_of_mem _ tw_361)) (fun _ h9 => h9) rfl d_Ro_set_38 ?_
      refine ed_copyb hx hb (hml.trans hl.1.symm) hown (hts _ (List.mem_cons_of_mem _ tw_438)) (hts _ (List.mem_cons_of_mem _ tw_440)) (hts _ (List.mem_cons_of_mem _ tw_439)) (hts _ (List.mem_cons_of_mem _ tw_8)) hK hP hD hS 1 1 0 rfl rfl rfl (0) (1) (j) (by omega) (by omega) (by omega) (by decide) (by omega) (by omega) (fun i hi => by rw [Nat.zero_add]; exact dg_fit hh hi) (Nat.le_of_ble_eq_true rfl) (Nat.le_of_ble_eq_true rfl) d_Ro_set_41 (fun H locs hP hD hS => ?_)
      have hP : va_P D ecl [(r, .inr (3, [.ref rd, .int (iI (zj)), .int (iI (zp))])), (rd, .inl (cB, 4200, .inl (va_cpy h h (0) (1) (j))))] H := hP
      have hD : va_D A [(r, .inr (3, [.ref rd, .int (iI (zj)), .int (iI (zp))])), (rd, .inl (cB, 4200, .inl (va_cpy h h (0) (1) (j))))] := hD
      refine ed_pc (pc' := 44) rfl ?_
      refine lv_aload_n hx hb d_Ro_set_44 rfl (lv_at hl 1 rfl) ?_
      refine va_get (D := D) (ci := 3) (v := .ref rd) (C := R_Ro) (T := T_Ro) (N := 3) hx hb hts (fun w h => List.mem_cons_of_mem _ (in_Ro w h)) hown hK hP 0 rfl rfl 0 (by decide) (hts _ (List.mem_cons_of_mem _ tw_359)) (fun _ h9 => h9) rfl d_Ro_set_45 ?_
      refine lv_iconst (v := iI 0) hx hb d_Ro_set_48 rfl ?_
      refine lv_lload_n hx hb d_Ro_set_49 rfl (lv_at hl 2 rfl) ?_
      refine lv_ldc2 (v := 10) hx hb hown (hts _ (List.mem_cons_of_mem _ tw_433)) d_Ro_set_50 ?_
      refine ed_tl (y := (jI (10))) (by decide +kernel) ?_
      refine lv_lload hx hb d_Ro_set_53 (lv_at hl 0 rfl) ?_
      refine lv_lmul hx hb d_Ro_set_55 ?_
      refine lv_lsub hx hb d_Ro_set_56 ?_
      refine ed_tl (y := (jI (((y % 10 : Nat) : Int)))) (by rw [← jI_nat, ← jI_nat, jI_mul, jI_sub]; congr 1; omega) ?_
      refine ed_pc (pc' := 57) rfl ?_
      refine ed_l2i hx hb d_Ro_set_57 ?_
      refine ed_i2b hx hb d_Ro_set_58 (by omega) ?_
      refine ed_bast hx hb hK hP hD hS 1 0 rfl rfl (0) (by omega) (by omega) (by decide) (by omega) d_Ro_set_59 (fun H locs hP hD hS => ?_)
      have hP : va_P D ecl [(r, .inr (3, [.ref rd, .int (iI (zj)), .int (iI (zp))])), (rd, .inl (cB, 4200, .inl (upd (va_cpy h h (0) (1) (j)) (0) ((iI (((y % 10 : Nat) : Int)))))))] H := hP
      have hD : va_D A [(r, .inr (3, [.ref rd, .int (iI (zj)), .int (iI (zp))])), (rd, .inl (cB, 4200, .inl (upd (va_cpy h h (0) (1) (j)) (0) ((iI (((y % 10 : Nat) : Int)))))))] := hD
      refine lv_aload_n hx hb d_Ro_set_60 rfl (lv_at hl 1 rfl) ?_
      refine lv_dup hx hb d_Ro_set_61 rfl ?_
      refine va_get (D := D) (ci := 3) (v := .int (iI (zj))) (C := R_Ro) (T := T_Ro) (N := 3) hx hb hts (fun w h => List.mem_cons_of_mem _ (in_Ro w h)) hown hK hP 0 rfl rfl 1 (by decide) (hts _ (List.mem_cons_of_mem _ tw_361)) (fun _ h9 => h9) rfl d_Ro_set_62 ?_
      refine lv_iconst (v := iI 1) hx hb d_Ro_set_65 rfl ?_
      refine ed_iadd hx hb d_Ro_set_66 ?_
      refine ed_pc (pc' := 67) rfl ?_
      refine va_put (D := D) (ci := 3) (v := .int (iI ((zj) + (1)))) (ty := .int) (C := R_Ro) (T := T_Ro) (N := 3) hx hb hts (fun w h => List.mem_cons_of_mem _ (in_Ro w h)) y_Ro t_Ro n_Ro hown hK hP hD hS 0 rfl rfl 1 (by decide) (hts _ (List.mem_cons_of_mem _ tw_361)) (fun _ h9 => h9) rfl (by decide +kernel) rfl rfl (Nat.le_of_ble_eq_true rfl) d_Ro_set_67 (fun H locs hP hD hS => ?_)
      have hP : va_P D ecl [(r, .inr (3, [.ref rd, .int (iI ((zj) + (1))), .int (iI (zp))])), (rd, .inl (cB, 4200, .inl (upd (va_cpy h h (0) (1) (j)) (0) ((iI (((y % 10 : Nat) : Int)))))))] H := hP
      have hD : va_D A [(r, .inr (3, [.ref rd, .int (iI ((zj) + (1))), .int (iI (zp))])), (rd, .inl (cB, 4200, .inl (upd (va_cpy h h (0) (1) (j)) (0) ((iI (((y % 10 : Nat) : Int)))))))] := hD
      refine lv_aload_n hx hb d_Ro_set_70 rfl (lv_at hl 1 rfl) ?_
      refine lv_dup hx hb d_Ro_set_71 rfl ?_
      refine va_get (D := D) (ci := 3) (v := .int (iI (zp))) (C := R_Ro) (T := T_Ro) (N := 3) hx hb hts (fun w h => List.mem_cons_of_mem _ (in_Ro w h)) hown hK hP 0 rfl rfl 2 (by decide) (hts _ (List.mem_cons_of_mem _ tw_363)) (fun _ h9 => h9) rfl d_Ro_set_72 ?_
      refine lv_iconst (v := iI 1) hx hb d_Ro_set_75 rfl ?_
      refine ed_iadd hx hb d_Ro_set_76 ?_
      refine va_put (D := D) (ci := 3) (v := .int (iI ((zp) + (1)))) (ty := .int) (C := R_Ro) (T := T_Ro) (N := 3) hx hb hts (fun w h => List.mem_cons_of_mem _ (in_Ro w h)) y_Ro t_Ro n_Ro hown hK hP hD hS 0 rfl rfl 2 (by decide) (hts _ (List.mem_cons_of_mem _ tw_363)) (fun _ h9 => h9) rfl (by decide +kernel) rfl rfl (Nat.le_of_ble_eq_true rfl) d_Ro_set_77 (fun H locs hP hD hS => ?_)
      have hP : va_P D ecl [(r, .inr (3, [.ref rd, .int (iI ((zj) + (1))), .int (iI ((zp) + (1)))])), (rd, .inl (cB, 4200, .inl (upd (va_cpy h h (0) (1) (j)) (0) ((iI (((y % 10 : Nat) : Int)))))))] H := hP
      have hD : va_D A [(r, .inr (3, [.ref rd, .int (iI ((zj) + (1))), .int (iI ((zp) + (1)))])), (rd, .inl (cB, 4200, .inl (upd (va_cpy h h (0) (1) (j)) (0) ((iI (((y % 10 : Nat) : Int)))))))] := hD
      refine lv_lload hx hb d_Ro_set_80 (lv_at hl 0 rfl) ?_
      refine ed_pc (pc' := 82) rfl ?_
      refine lv_lstore_n hx hb d_Ro_set_82 rfl hl (by decide) rfl (fun ls hl => ?_)
      have hl : lv_has ls 7 [(3, .long (lN (y / 10))), (5, .long (lN (y / 10))), (0, .ref r)] := hl
      refine lv_goto (tgt := 12) hx hb d_Ro_set_83 rfl ?_
      have hl := lv_sub hl [2, 0] rfl
      exact ih _ (by omega) (j + 1) (upd (va_cpy h h 0 1 j) 0 (iI ((y % 10 : Nat) : Int))) (y / 10) _ _ _ ls H locs rfl (by omega) (by omega) (rfl) (by rw [hy, Nat.div_div_eq_div_mul, ← Nat.pow_succ]) (by omega) (by rw [nb_mod 10 V j, ← hy]; exact cp_cons hh (Nat.mod_lt _ (p10_pos j)) (by omega)) hl hP hD hS
  refine lv_lload_n hx hb d_Ro_set_0 rfl (lv_at hl 1 rfl) ?_
  refine lv_lstore_n hx hb d_Ro_set_1 rfl hl (by decide) rfl (fun ls hl => ?_)
  have hl : lv_has ls 7 [(3, .long (lN V)), (0, .ref r), (1, .long (lN V))] := hl
  refine lv_aload_n hx hb d_Ro_set_2 rfl (lv_at hl 1 rfl) ?_
  refine lv_iconst (v := iI 0) hx hb d_Ro_set_3 rfl ?_
  refine va_put (D := D) (ci := 3) (v := .int (iI (0))) (ty := .int) (C := R_Ro) (T := T_Ro) (N := 3) hx hb hts (fun w h => List.mem_cons_of_mem _ (in_Ro w h)) y_Ro t_Ro n_Ro hown hK hP hD hS 0 rfl rfl 1 (by decide) (hts _ (List.mem_cons_of_mem _ tw_361)) (fun _ h9 => h9) rfl (by decide +kernel) rfl rfl (Nat.le_of_ble_eq_true rfl) d_Ro_set_4 (fun H locs hP hD hS => ?_)
  have hP : va_P D ecl [(r, .inr (3, [.ref rd, .int (iI (0)), .int (iI (pt))])), (rd, .inl (cB, 4200, .inl d))] H := hP
  have hD : va_D A [(r, .inr (3, [.ref rd, .int (iI (0)), .int (iI (pt))])), (rd, .inl (cB, 4200, .inl d))] := hD
  refine lv_aload_n hx hb d_Ro_set_7 rfl (lv_at hl 1 rfl) ?_
  refine lv_iconst (v := iI 0) hx hb d_Ro_set_8 rfl ?_
  refine ed_pc (pc' := 9) rfl ?_
  refine va_put (D := D) (ci := 3) (v := .int (iI (0))) (ty := .int) (C := R_Ro) (T := T_Ro) (N := 3) hx hb hts (fun w h => List.mem_cons_of_mem _ (in_Ro w h)) y_Ro t_Ro n_Ro hown hK hP hD hS 0 rfl rfl 2 (by decide) (hts _ (List.mem_cons_of_mem _ tw_363)) (fun _ h9 => h9) rfl (by decide +kernel) rfl rfl (Nat.le_of_ble_eq_true rfl) d_Ro_set_9 (fun H locs hP hD hS => ?_)
  have hP : va_P D ecl [(r, .inr (3, [.ref rd, .int (iI (0)), .int (iI (0))])), (rd, .inl (cB, 4200, .inl d))] H := hP
  have hD : va_D A [(r, .inr (3, [.ref rd, .int (iI (0)), .int (iI (0))])), (rd, .inl (cB, 4200, .inl d))] := hD
  have hl := lv_sub hl [1, 0] rfl
  exact L12 _ (0) (d) (V) _ _ _ ls H locs rfl (rfl) (rfl) (rfl) (by simp) (by omega) (fun i hi => absurd hi (by omega)) hl hP hD hS
