set_option maxHeartbeats 4000000 in
set_option maxRecDepth 100000 in
theorem c_Ro_times (l : Launch) (D : va_G) (cB cI cJ : ClassId) (t5 : Nat) (ad : Nat → Nat) (r rd : Nat) (d : Nat → Int32) (pt : Int) (X F : Nat) (hX : 0 < X) (hF : 0 < F ∧ F < 10) (h41 : dl X ≤ 4100) (hg : rw_ok d X) (hpt : -100000000 ≤ pt ∧ pt ≤ 100000000) : c_V l m_Ro_times (Cond.code m_Ro_times b_Ro_times 7 none :: gw) (rm_ 2 91) (eX t5 ad) D ecl (tyS cB cI cJ) [.ref r, .int (iI ((F : Int)))] [(r, .inr (3, [.ref rd, .int (iI (((dl X : Nat) : Int))), .int (iI (pt))])), (rd, .inl (cB, 4200, .inl d))] (fun u => ∃ d' : Nat → Int32, rw_ok d' (rz (X * F)) ∧ u = [(r, .inr (3, [.ref rd, .int (iI (((dl (rz (X * F)) : Nat) : Int))), .int (iI (pt + (((dl (X * F) : Nat) : Int) - ((dl X : Nat) : Int))))])), (rd, .inl (cB, 4200, .inl d'))]) 0 0 := by
  intro sz0
  refine Met.ofW (cc := b_Ro_times) (maxL := 7) (ret := none) (by decide) rfl ?_
  intro p e s m args below meth c s₁ B hml hv
  obtain ⟨rfl, hsz, hP, hK, hD0, hE⟩ := hv
  have hx := B.exec
  have hb := B.bytes
  have hr := B.returns
  have hts := atoms_spec (ws := Cond.code m_Ro_times b_Ro_times 7 none :: gw) B.pre
  have hown : s.vm.findClass R_Ro = some m.cls := findClass_of_methodNamed B.named
  have hlocks := B.notSynchronized
  subst hsz
  have hD := hD0.self (sz := s.heap.size)
  generalize hAe : va_A [(r, .inr (3, [.ref rd, .int (iI (((dl X : Nat) : Int))), .int (iI (pt))])), (rd, .inl (cB, 4200, .inl d))] s.heap.size = A at hD hE ⊢
  have hA : ∀ q : Nat, s.heap.size ≤ q → A q := fun q h => by rw [← hAe]; exact Or.inr h
  have hS : va_S A s.heap s.heap [] := va_S.rf
  have hl := lv_entry ([.ref r, .int (iI ((F : Int)))]) (n := 7) (Nat.le_of_ble_eq_true rfl)
  rw [lg_entry_eq]
  generalize (lg_sl ([.ref r, .int (iI ((F : Int)))]) ++ List.replicate (7 - (lg_sl ([.ref r, .int (iI ((F : Int)))])).length) Slot.unset).toArray = ls at hl ⊢
  have hl : lv_has ls 7 [(0, .ref r), (1, .int (iI ((F : Int))))] := hl
  obtain ⟨hg1, hg2⟩ := hg
  have hdl := tr_dl hX hF.1
  obtain ⟨CC, hCC⟩ : ∃ CC : Nat, CC = X * F / 10 ^ dl X := ⟨_, rfl⟩
  have hC10 : CC < 10 := by rw [hCC, ← tm_last (dl_lt X)]; exact Nat.lt_trans (tm_small (by decide) hF.1) hF.2
  rw [← hCC] at hdl
  have hdC : dl CC ≤ 1 := dl_bound (by omega)
  have hXFp : 0 < X * F := Nat.mul_pos hX hF.1
  have L128 : ∀ (n9 : Nat) (i : Nat) (h : Nat → Int32) (cy : Nat) (zi : Int) (zc : Int) (ls : Array Slot) (H : Heap) (locs : List Loc), dl CC - i = n9 → (zi = ((dl CC : Nat) : Int) - 1 - (i : Int)) → (zc = (cy : Int)) → (cy = CC / 10 ^ i) → (i ≤ dl CC) → (∀ k, dl CC - i ≤ k → k < dl X + dl CC → h k = iI ((X * F / 10 ^ (dl X + dl CC - 1 - k) % 10 : Nat) : Int)) → lv_has ls 7 [(0, .ref r), (2, .long (jI (zc))), (5, .int (iI (zi)))] → va_P D ecl [(r, .inr (3, [.ref rd, .int (iI (((dl (X * F) : Nat) : Int))), .int (iI (pt + (((dl (X * F) : Nat) : Int) - ((dl X : Nat) : Int))))])), (rd, .inl (cB, 4200, .inl h))] H → va_D A [(r, .inr (3, [.ref rd, .int (iI (((dl (X * F) : Nat) : Int))), .int (iI (pt + (((dl (X * F) : Nat) : Int) - ((dl X : Nat) : Int))))])), (rd, .inl (cB, 4200, .inl h))] → va_S A s.heap H locs → W p l e (headSpec (Cond.code m_Ro_times b_Ro_times 7 none :: gw) (rm_ 2 91)).room s m ([.ref r, .int (iI ((F : Int)))] : List Value).toArray below meth c H locs 0 0 (MQ below (va_Qv (fun u => ∃ d' : Nat → Int32, rw_ok d' (rz (X * F)) ∧ u = [(r, .inr (3, [.ref rd, .int (iI (((dl (rz (X * F)) : Nat) : Int))), .int (iI (pt + (((dl (X * F) : Nat) : Int) - ((dl X : Nat) : Int))))])), (rd, .inl (cB, 4200, .inl d'))]) (c_B D ecl A) A) ([.ref r, .int (iI ((F : Int)))] : List Value).toArray s 0 0 A) (F0 m 128 ls []) := by
    intro n9
    induction n9 using Nat.strongRecOn with
    | ind n9 ih =>
    intro i h cy zi zc ls H locs hn9 hzi hzc hcy hi hh hl hP hD hS
    refine lv_iload hx hb d_Ro_times_128 (lv_at hl 2 rfl) ?_
    refine ed_if_lt (tgt := 159) hx hb d_Ro_times_130 rfl (by omega) (fun h_1 => ?_) (fun h_1 => ?_)
    · skip
      refine ed_pc (pc' := 159) rfl ?_
      refine lv_aload_n hx hb d_Ro_times_159 rfl (lv_at hl 0 rfl) ?_
      have hie : i = dl CC := by omega
      have hhd : dg_ok h (dl (X * F)) (X * F) := fun k hk => by rw [hdl] at hk ⊢; exact hh k (by omega) hk
      refine c_fv (wc := [(r, .inr (3, [.ref rd, .int (iI (((dl (X * F) : Nat) : Int))), .int (iI (pt + (((dl (X * F) : Nat) : Int) - ((dl X : Nat) : Int))))])), (rd, .inl (cB, 4200, .inl h))]) (wr := []) (va_runV (C := "ExactDigitsModel$Row") (As := []) (rest := []) ⟨hx, hb, hml, hown, hts⟩ (c_Ro_trim l D cB cI cJ t5 ad r rd h (pt + (((dl (X * F) : Nat) : Int) - ((dl X : Nat) : Int))) (X * F) (by omega) hhd H.size) (cwV 0 hts (gV tw_441 tw_442 tw_443 tw_4 tw_444) rfl rfl rfl (by decide +kernel) ⟨Nat.le_of_ble_eq_true rfl, Nat.le_of_ble_eq_true rfl⟩) ⟨c_blind (eX_X t5 ad), va_recv (ci := 3) (q0 := 0) hK hP rfl rfl, fun U hU hW => c_pre (wc := [(r, .inr (3, [.ref rd, .int (iI (((dl (X * F) : Nat) : Int))), .int (iI (pt + (((dl (X * F) : Nat) : Int) - ((dl X : Nat) : Int))))])), (rd, .inl (cB, 4200, .inl h))]) (eX_X t5 ad) hE hK hP hD hS hA [0, 1] rfl (by decide) U hU hW⟩ rfl rfl hl.1 rfl (lv_room (Nat.le_of_ble_eq_true rfl)) d_Ro_times_160 ⟨Nat.le_of_ble_eq_true rfl, Nat.le_of_ble_eq_true rfl⟩) hP hD hS hA [0, 1] [] rfl rfl (by decide) (by decide) (fun u H locs hp hP hD hS => ?_)
      obtain ⟨hdz, rfl⟩ := hp
      have hP : va_P D ecl [(r, .inr (3, [.ref rd, .int (iI (((dl (rz (X * F)) : Nat) : Int))), .int (iI (if X * F = 0 then 0 else pt + (((dl (X * F) : Nat) : Int) - ((dl X : Nat) : Int))))])), (rd, .inl (cB, 4200, .inl h))] H := hP
      have hD : va_D A [(r, .inr (3, [.ref rd, .int (iI (((dl (rz (X * F)) : Nat) : Int))), .int (iI (if X * F = 0 then 0 else pt + (((dl (X * F) : Nat) : Int) - ((dl X : Nat) : Int))))])), (rd, .inl (cB, 4200, .inl h))] := hD
      exact W.vret hx hb hr (fun t9 ht9 hW9 => ⟨⟨[(r, .inr (3, [.ref rd, .int (iI (((dl (rz (X * F)) : Nat) : Int))), .int (iI (if X * F = 0 then 0 else pt + (((dl (X * F) : Nat) : Int) - ((dl X : Nat) : Int))))])), (rd, .inl (cB, 4200, .inl h))], rfl, ⟨h, ⟨rz_rz _, hdz⟩, by rw [if_neg (Nat.ne_of_gt hXFp)]⟩, by rw [ht9]; exact hP, hD⟩, hS.F ht9⟩) hS.2.2 d_Ro_times_163
    · skip
      refine ed_pc (pc' := 133) rfl ?_
      have hcl : cy ≤ CC := by rw [hcy]; exact Nat.div_le_self _ _
      refine lv_aload_n hx hb d_Ro_times_133 rfl (lv_at hl 0 rfl) ?_
      refine va_get (D := D) (ci := 3) (v := .ref rd) (C := R_Ro) (T := T_Ro) (N := 3) hx hb hts (fun w h => List.mem_cons_of_mem _ (in_Ro w h)) hown hK hP 0 rfl rfl 0 (by decide) (hts _ (List.mem_cons_of_mem _ tw_359)) (fun _ h9 => h9) rfl d_Ro_times_134 ?_
      refine lv_iload hx hb d_Ro_times_137 (lv_at hl 2 rfl) ?_
      refine lv_lload_n hx hb d_Ro_times_139 rfl (lv_at hl 1 rfl) ?_
      refine lv_ldc2 (v := 10) hx hb hown (hts _ (List.mem_cons_of_mem _ tw_433)) d_Ro_times_140 ?_
      refine ed_tl (y := (jI (10))) (by decide +kernel) ?_
      refine ed_pc (pc' := 143) rfl ?_
      refine ed_lrem hx hb d_Ro_times_143 (by omega) (by omega) (by omega) ?_
      refine ed_l2i hx hb d_Ro_times_144 ?_
      refine ed_i2b hx hb d_Ro_times_145 (by omega) ?_
      refine ed_tz (y := ((cy % 10 : Nat) : Int)) (by omega) ?_
      refine ed_bast hx hb hK hP hD hS 1 0 rfl rfl (dl CC - 1 - i) (by omega) (by omega) (by decide) (by omega) d_Ro_times_146 (fun H locs hP hD hS => ?_)
      have hP : va_P D ecl [(r, .inr (3, [.ref rd, .int (iI (((dl (X * F) : Nat) : Int))), .int (iI (pt + (((dl (X * F) : Nat) : Int) - ((dl X : Nat) : Int))))])), (rd, .inl (cB, 4200, .inl (upd h (dl CC - 1 - i) ((iI (((cy % 10 : Nat) : Int)))))))] H := hP
      have hD : va_D A [(r, .inr (3, [.ref rd, .int (iI (((dl (X * F) : Nat) : Int))), .int (iI (pt + (((dl (X * F) : Nat) : Int) - ((dl X : Nat) : Int))))])), (rd, .inl (cB, 4200, .inl (upd h (dl CC - 1 - i) ((iI (((cy % 10 : Nat) : Int)))))))] := hD
      have hcl2 : cy ≤ CC := by rw [hcy]; exact Nat.div_le_self _ _
      refine lv_lload_n hx hb d_Ro_times_147 rfl (lv_at hl 1 rfl) ?_
      refine lv_ldc2 (v := 10) hx hb hown (hts _ (List.mem_cons_of_mem _ tw_433)) d_Ro_times_148 ?_
      refine ed_tl (y := (jI (10))) (by decide +kernel) ?_
      refine ed_ldiv hx hb d_Ro_times_151 (by omega) (by omega) (by omega) ?_
      refine ed_tj (y := ((cy / 10 : Nat) : Int)) (by omega) ?_
      refine lv_lstore_n hx hb d_Ro_times_152 rfl hl (by decide) rfl (fun ls hl => ?_)
      have hl : lv_has ls 7 [(2, .long (jI (((cy / 10 : Nat) : Int)))), (0, .ref r), (5, .int (iI (zi)))] := hl
      refine ed_pc (pc' := 153) rfl ?_
      refine lv_iinc (k := 2) (v := iI (zi + (-1))) hx hb d_Ro_times_153 hl rfl (iI_add _ _) (by decide) rfl (fun ls hl => ?_)
      have hl : lv_has ls 7 [(5, .int (iI (zi + (-1)))), (2, .long (jI (((cy / 10 : Nat) : Int)))), (0, .ref r)] := hl
      refine lv_goto (tgt := 128) hx hb d_Ro_times_156 rfl ?_
      have hl := lv_sub hl [2, 1, 0] rfl
      exact ih _ (by omega) (i + 1) (_) (cy / 10) _ _ ls H locs rfl (by omega) (by omega) (by rw [hcy, Nat.div_div_eq_div_mul, ← Nat.pow_succ]) (by omega) (tr_c (by omega) hh (by rw [← hCC, ← hcy])) hl hP hD hS
  have L61 : ∀ (n9 : Nat) (i : Nat) (h : Nat → Int32) (cy : Nat) (zi : Int) (zc : Int) (z2 : Int) (ls : Array Slot) (H : Heap) (locs : List Loc), cy = n9 → (zi = (i : Int)) → (zc = (cy : Int)) → (z2 = (CC : Int)) → (cy ≤ CC) → (i + dl cy = dl CC) → (∀ k, dl X - dl X ≤ k → k < dl X → h k = iI ((X * F / 10 ^ (dl X - 1 - k) % 10 : Nat) : Int)) → lv_has ls 7 [(0, .ref r), (2, .long (jI (z2))), (4, .int (iI (zi))), (5, .long (jI (zc)))] → va_P D ecl [(r, .inr (3, [.ref rd, .int (iI (((dl X : Nat) : Int))), .int (iI (pt))])), (rd, .inl (cB, 4200, .inl h))] H → va_D A [(r, .inr (3, [.ref rd, .int (iI (((dl X : Nat) : Int))), .int (iI (pt))])), (rd, .inl (cB, 4200, .inl h))] → va_S A s.heap H locs → W p l e (headSpec (Cond.code m_Ro_times b_Ro_times 7 none :: gw) (rm_ 2 91)).room s m ([.ref r, .int (iI ((F : Int)))] : List Value).toArray below meth c H locs 0 0 (MQ below (va_Qv (fun u => ∃ d' : Nat → Int32, rw_ok d' (rz (X * F)) ∧ u = [(r, .inr (3, [.ref rd, .int (iI (((dl (rz (X * F)) : Nat) : Int))), .int (iI (pt + (((dl (X * F) : Nat) : Int) - ((dl X : Nat) : Int))))])), (rd, .inl (cB, 4200, .inl d'))]) (c_B D ecl A) A) ([.ref r, .int (iI ((F : Int)))] : List Value).toArray s 0 0 A) (F0 m 61 ls []) := by
    intro n9
    induction n9 using Nat.strongRecOn with
    | ind n9 ih =>
    intro i h cy zi zc z2 ls H locs hn9 hzi hzc hz2 hcy hi hlo hl hP hD hS
    refine lv_lload hx hb d_Ro_times_61 (lv_at hl 3 rfl) ?_
    refine lv_lconst (v := jI 0) hx hb d_Ro_times_63 (by decide +kernel) ?_
    refine ed_lif_le (tgt := 82) hx hb d_Ro_times_64 d_Ro_times_65 rfl (by omega) (by omega) (fun h_2 => ?_) (fun h_2 => ?_)
    · skip
      refine ed_pc (pc' := 82) rfl ?_
      have hcy0 : cy = 0 := by omega
      rw [hcy0, dl_0] at hi
      have hid : i = dl CC := by omega
      refine lv_aload_n hx hb d_Ro_times_82 rfl (lv_at hl 0 rfl) ?_
      refine va_get (D := D) (ci := 3) (v := .ref rd) (C := R_Ro) (T := T_Ro) (N := 3) hx hb hts (fun w h => List.mem_cons_of_mem _ (in_Ro w h)) hown hK hP 0 rfl rfl 0 (by decide) (hts _ (List.mem_cons_of_mem _ tw_359)) (fun _ h9 => h9) rfl d_Ro_times_83 ?_
      refine lv_iconst (v := iI 0) hx hb d_Ro_times_86 rfl ?_
      refine lv_aload_n hx hb d_Ro_times_87 rfl (lv_at hl 0 rfl) ?_
      refine ed_pc (pc' := 88) rfl ?_
      refine va_get (D := D) (ci := 3) (v := .ref rd) (C := R_Ro) (T := T_Ro) (N := 3) hx hb hts (fun w h => List.mem_cons_of_mem _ (in_Ro w h)) hown hK hP 0 rfl rfl 0 (by decide) (hts _ (List.mem_cons_of_mem _ tw_359)) (fun _ h9 => h9) rfl d_Ro_times_88 ?_
      refine lv_iload hx hb d_Ro_times_91 (lv_at hl 2 rfl) ?_
      refine lv_aload_n hx hb d_Ro_times_93 rfl (lv_at hl 0 rfl) ?_
      refine va_get (D := D) (ci := 3) (v := .int (iI (((dl X : Nat) : Int)))) (C := R_Ro) (T := T_Ro) (N := 3) hx hb hts (fun w h => List.mem_cons_of_mem _ (in_Ro w h)) hown hK hP 0 rfl rfl 1 (by decide) (hts _ (List.mem_cons_of_mem _ tw_361)) (fun _ h9 => h9) rfl d_Ro_times_94 ?_
      refine ed_copyb hx hb (hml.trans hl.1.symm) hown (hts _ (List.mem_cons_of_mem _ tw_438)) (hts _ (List.mem_cons_of_mem _ tw_440)) (hts _ (List.mem_cons_of_mem _ tw_439)) (hts _ (List.mem_cons_of_mem _ tw_8)) hK hP hD hS 1 1 0 rfl rfl rfl (0) (dl CC) (dl X) (by omega) (by omega) (by omega) (by decide) (by omega) (by omega) (fun k hk => by rw [Nat.zero_add, hlo k (by omega) hk]; exact fit_d _ (dg_lt _ _)) (Nat.le_of_ble_eq_true rfl) (Nat.le_of_ble_eq_true rfl) d_Ro_times_97 (fun H locs hP hD hS => ?_)
      have hP : va_P D ecl [(r, .inr (3, [.ref rd, .int (iI (((dl X : Nat) : Int))), .int (iI (pt))])), (rd, .inl (cB, 4200, .inl (va_cpy h h (0) (dl CC) (dl X))))] H := hP
      have hD : va_D A [(r, .inr (3, [.ref rd, .int (iI (((dl X : Nat) : Int))), .int (iI (pt))])), (rd, .inl (cB, 4200, .inl (va_cpy h h (0) (dl CC) (dl X))))] := hD
      refine lv_aload_n hx hb d_Ro_times_100 rfl (lv_at hl 0 rfl) ?_
      refine lv_dup hx hb d_Ro_times_101 rfl ?_
      refine va_get (D := D) (ci := 3) (v := .int (iI (((dl X : Nat) : Int)))) (C := R_Ro) (T := T_Ro) (N := 3) hx hb hts (fun w h => List.mem_cons_of_mem _ (in_Ro w h)) hown hK hP 0 rfl rfl 1 (by decide) (hts _ (List.mem_cons_of_mem _ tw_361)) (fun _ h9 => h9) rfl d_Ro_times_102 ?_
      refine lv_iload hx hb d_Ro_times_105 (lv_at hl 2 rfl) ?_
      refine ed_pc (pc' := 107) rfl ?_
      refine ed_iadd hx hb d_Ro_times_107 ?_
      refine ed_tz (y := ((dl (X * F) : Nat) : Int)) (by omega) ?_
      refine va_put (D := D) (ci := 3) (v := .int (iI (((dl (X * F) : Nat) : Int)))) (ty := .int) (C := R_Ro) (T := T_Ro) (N := 3) hx hb hts (fun w h => List.mem_cons_of_mem _ (in_Ro w h)) y_Ro t_Ro n_Ro hown hK hP hD hS 0 rfl rfl 1 (by decide) (hts _ (List.mem_cons_of_mem _ tw_361)) (fun _ h9 => h9) rfl (by decide +kernel) rfl rfl (Nat.le_of_ble_eq_true rfl) d_Ro_times_108 (fun H locs hP hD hS => ?_)
      have hP : va_P D ecl [(r, .inr (3, [.ref rd, .int (iI (((dl (X * F) : Nat) : Int))), .int (iI (pt))])), (rd, .inl (cB, 4200, .inl (va_cpy h h (0) (dl CC) (dl X))))] H := hP
      have hD : va_D A [(r, .inr (3, [.ref rd, .int (iI (((dl (X * F) : Nat) : Int))), .int (iI (pt))])), (rd, .inl (cB, 4200, .inl (va_cpy h h (0) (dl CC) (dl X))))] := hD
      refine lv_aload_n hx hb d_Ro_times_111 rfl (lv_at hl 0 rfl) ?_
      refine lv_dup hx hb d_Ro_times_112 rfl ?_
      refine va_get (D := D) (ci := 3) (v := .int (iI (pt))) (C := R_Ro) (T := T_Ro) (N := 3) hx hb hts (fun w h => List.mem_cons_of_mem _ (in_Ro w h)) hown hK hP 0 rfl rfl 2 (by decide) (hts _ (List.mem_cons_of_mem _ tw_363)) (fun _ h9 => h9) rfl d_Ro_times_113 ?_
      refine lv_iload hx hb d_Ro_times_116 (lv_at hl 2 rfl) ?_
      refine ed_iadd hx hb d_Ro_times_118 ?_
      refine ed_tz (y := pt + (((dl (X * F) : Nat) : Int) - ((dl X : Nat) : Int))) (by omega) ?_
      refine va_put (D := D) (ci := 3) (v := .int (iI (pt + (((dl (X * F) : Nat) : Int) - ((dl X : Nat) : Int))))) (ty := .int) (C := R_Ro) (T := T_Ro) (N := 3) hx hb hts (fun w h => List.mem_cons_of_mem _ (in_Ro w h)) y_Ro t_Ro n_Ro hown hK hP hD hS 0 rfl rfl 2 (by decide) (hts _ (List.mem_cons_of_mem _ tw_363)) (fun _ h9 => h9) rfl (by decide +kernel) rfl rfl (Nat.le_of_ble_eq_true rfl) d_Ro_times_119 (fun H locs hP hD hS => ?_)
      have hP : va_P D ecl [(r, .inr (3, [.ref rd, .int (iI (((dl (X * F) : Nat) : Int))), .int (iI (pt + (((dl (X * F) : Nat) : Int) - ((dl X : Nat) : Int))))])), (rd, .inl (cB, 4200, .inl (va_cpy h h (0) (dl CC) (dl X))))] H := hP
      have hD : va_D A [(r, .inr (3, [.ref rd, .int (iI (((dl (X * F) : Nat) : Int))), .int (iI (pt + (((dl (X * F) : Nat) : Int) - ((dl X : Nat) : Int))))])), (rd, .inl (cB, 4200, .inl (va_cpy h h (0) (dl CC) (dl X))))] := hD
      have hzc := hz2
      refine ed_pc (pc' := 122) rfl ?_
      refine lv_iload hx hb d_Ro_times_122 (lv_at hl 2 rfl) ?_
      refine lv_iconst (v := iI 1) hx hb d_Ro_times_124 rfl ?_
      refine ed_isub hx hb d_Ro_times_125 ?_
      refine lv_istore hx hb d_Ro_times_126 hl (by decide) rfl (fun ls hl => ?_)
      have hl : lv_has ls 7 [(5, .int (iI ((zi) - (1)))), (0, .ref r), (2, .long (jI (z2))), (4, .int (iI (zi)))] := hl
      have hl := lv_sub hl [1, 2, 0] rfl
      exact L128 _ (0) (_) (CC) _ _ ls H locs rfl (by omega) (hzc) (by simp) (by omega) (by rw [show dl X + dl CC = dl X + dl CC from rfl]; exact tr_cp hlo) hl hP hD hS
    · skip
      refine ed_pc (pc' := 68) rfl ?_
      refine lv_iinc (k := 2) (v := iI (zi + 1)) hx hb d_Ro_times_68 hl rfl (iI_add _ _) (by decide) rfl (fun ls hl => ?_)
      have hl : lv_has ls 7 [(4, .int (iI (zi + 1))), (0, .ref r), (2, .long (jI (z2))), (5, .long (jI (zc)))] := hl
      refine lv_lload hx hb d_Ro_times_71 (lv_at hl 3 rfl) ?_
      refine lv_ldc2 (v := 10) hx hb hown (hts _ (List.mem_cons_of_mem _ tw_433)) d_Ro_times_73 ?_
      refine ed_tl (y := (jI (10))) (by decide +kernel) ?_
      refine ed_ldiv hx hb d_Ro_times_76 (by omega) (by omega) (by omega) ?_
      refine ed_pc (pc' := 77) rfl ?_
      refine lv_lstore hx hb d_Ro_times_77 hl (by decide) rfl (fun ls hl => ?_)
      have hl : lv_has ls 7 [(5, .long (jI ((zc) / (10)))), (4, .int (iI (zi + 1))), (0, .ref r), (2, .long (jI (z2)))] := hl
      refine lv_goto (tgt := 61) hx hb d_Ro_times_79 rfl ?_
      have hl := lv_sub hl [2, 3, 1, 0] rfl
      exact ih _ (by omega) (i + 1) (h) (cy / 10) _ _ _ ls H locs rfl (by omega) (by omega) (hz2) (by omega) (by rw [dl_s (by omega)] at hi; omega) (hlo) hl hP hD hS
  have L10 : ∀ (n9 : Nat) (j : Nat) (h : Nat → Int32) (cn : Nat) (zk : Int) (zc : Int) (ls : Array Slot) (H : Heap) (locs : List Loc), dl X - j = n9 → (zk = ((dl X : Nat) : Int) - 1 - (j : Int)) → (zc = (cn : Int)) → (cn = X % 10 ^ j * F / 10 ^ j) → (j ≤ dl X) → (∀ i, dl X - j ≤ i → i < dl X → h i = iI ((X * F / 10 ^ (dl X - 1 - i) % 10 : Nat) : Int)) → (∀ i, i < dl X - j → h i = iI ((X / 10 ^ (dl X - 1 - i) % 10 : Nat) : Int)) → lv_has ls 7 [(0, .ref r), (1, .int (iI ((F : Int)))), (2, .long (jI (zc))), (4, .int (iI (zk)))] → va_P D ecl [(r, .inr (3, [.ref rd, .int (iI (((dl X : Nat) : Int))), .int (iI (pt))])), (rd, .inl (cB, 4200, .inl h))] H → va_D A [(r, .inr (3, [.ref rd, .int (iI (((dl X : Nat) : Int))), .int (iI (pt))])), (rd, .inl (cB, 4200, .inl h))] → va_S A s.heap H locs → W p l e (headSpec (Cond.code m_Ro_times b_Ro_times 7 none :: gw) (rm_ 2 91)).room s m ([.ref r, .int (iI ((F : Int)))] : List Value).toArray below meth c H locs 0 0 (MQ below (va_Qv (fun u => ∃ d' : Nat → Int32, rw_ok d' (rz (X * F)) ∧ u = [(r, .inr (3, [.ref rd, .int (iI (((dl (rz (X * F)) : Nat) : Int))), .int (iI (pt + (((dl (X * F) : Nat) : Int) - ((dl X : Nat) : Int))))])), (rd, .inl (cB, 4200, .inl d'))]) (c_B D ecl A) A) ([.ref r, .int (iI ((F : Int)))] : List Value).toArray s 0 0 A) (F0 m 10 ls []) := by
    intro n9
    induction n9 using Nat.strongRecOn with
    | ind n9 ih =>
    intro j h cn zk zc ls H locs hn9 hzk hzc hcn hj hlo hhi hl hP hD hS
    refine lv_iload hx hb d_Ro_times_10 (lv_at hl 3 rfl) ?_
    refine ed_if_lt (tgt := 55) hx hb d_Ro_times_12 rfl (by omega) (fun h_3 => ?_) (fun h_3 => ?_)
    · skip
      refine ed_pc (pc' := 55) rfl ?_
      have hje : j = dl X := by omega
      rw [hje] at hcn hlo
      rw [tm_last (dl_lt X), ← hCC] at hcn
      have hcy2 : zc = (CC : Int) := by omega
      have hlo2 := hlo
      refine lv_iconst (v := iI 0) hx hb d_Ro_times_55 rfl ?_
      refine lv_istore hx hb d_Ro_times_56 hl (by decide) rfl (fun ls hl => ?_)
      have hl : lv_has ls 7 [(4, .int (iI (0))), (0, .ref r), (1, .int (iI ((F : Int)))), (2, .long (jI (zc)))] := hl
      refine lv_lload_n hx hb d_Ro_times_58 rfl (lv_at hl 3 rfl) ?_
      refine lv_lstore hx hb d_Ro_times_59 hl (by decide) rfl (fun ls hl => ?_)
      have hl : lv_has ls 7 [(5, .long (jI (zc))), (4, .int (iI (0))), (0, .ref r), (1, .int (iI ((F : Int)))), (2, .long (jI (zc)))] := hl
      have hl := lv_sub hl [2, 4, 1, 0] rfl
      exact L61 _ (0) (_) (CC) _ _ _ ls H locs rfl (rfl) (hcy2) (hcy2) (Nat.le_refl _) (by omega) (hlo2) hl hP hD hS
    · skip
      refine ed_pc (pc' := 15) rfl ?_
      obtain ⟨di, hdi⟩ : ∃ di : Nat, di = X / 10 ^ j % 10 := ⟨_, rfl⟩
      have hd9 : di < 10 := by rw [hdi]; exact dg_lt _ _
      have hcs : cn < F := by rw [hcn]; exact tm_small (by decide) hF.1
      obtain ⟨pr, hpr⟩ : ∃ pr : Nat, pr = cn + F * di := ⟨_, rfl⟩
      have hprb : F * di ≤ 9 * 9 := Nat.mul_le_mul (by omega) (by omega)
      have hpi : (pr : Int) = (cn : Int) + (F : Int) * (di : Int) := by rw [hpr]; simp
      have hdg : pr % 10 = X * F / 10 ^ j % 10 := by rw [hpr, hdi, hcn, Nat.add_comm, Nat.mul_comm F]; exact tm_digit (by decide) X F j
      refine lv_lload_n hx hb d_Ro_times_15 rfl (lv_at hl 2 rfl) ?_
      refine lv_iload_n hx hb d_Ro_times_16 rfl (lv_at hl 1 rfl) ?_
      refine ed_i2l hx hb d_Ro_times_17 (by omega) ?_
      refine lv_aload_n hx hb d_Ro_times_18 rfl (lv_at hl 0 rfl) ?_
      refine va_get (D := D) (ci := 3) (v := .ref rd) (C := R_Ro) (T := T_Ro) (N := 3) hx hb hts (fun w h => List.mem_cons_of_mem _ (in_Ro w h)) hown hK hP 0 rfl rfl 0 (by decide) (hts _ (List.mem_cons_of_mem _ tw_359)) (fun _ h9 => h9) rfl d_Ro_times_19 ?_
      refine ed_pc (pc' := 22) rfl ?_
      refine lv_iload hx hb d_Ro_times_22 (lv_at hl 3 rfl) ?_
      refine ed_bald (y := (di : Int)) hx hb hK hP 1 0 rfl rfl (dl X - 1 - j) (by omega) (by omega) (by decide) (by rw [hdi, hhi (dl X - 1 - j) (by omega), show dl X - 1 - (dl X - 1 - j) = j by omega]) d_Ro_times_24 ?_
      refine ed_i2l hx hb d_Ro_times_25 (by omega) ?_
      refine ed_lmul hx hb d_Ro_times_26 ?_
      refine ed_ladd hx hb d_Ro_times_27 ?_
      refine ed_tj (y := (pr : Int)) (by rw [hpi, hzc]) ?_
      refine lv_lstore_n hx hb d_Ro_times_28 rfl hl (by decide) rfl (fun ls hl => ?_)
      have hl : lv_has ls 7 [(2, .long (jI ((pr : Int)))), (0, .ref r), (1, .int (iI ((F : Int)))), (4, .int (iI (zk)))] := hl
      refine lv_aload_n hx hb d_Ro_times_29 rfl (lv_at hl 1 rfl) ?_
      refine va_get (D := D) (ci := 3) (v := .ref rd) (C := R_Ro) (T := T_Ro) (N := 3) hx hb hts (fun w h => List.mem_cons_of_mem _ (in_Ro w h)) hown hK hP 0 rfl rfl 0 (by decide) (hts _ (List.mem_cons_of_mem _ tw_359)) (fun _ h9 => h9) rfl d_Ro_times_30 ?_
      refine ed_pc (pc' := 33) rfl ?_
      refine lv_iload hx hb d_Ro_times_33 (lv_at hl 3 rfl) ?_
      refine lv_lload_n hx hb d_Ro_times_35 rfl (lv_at hl 0 rfl) ?_
      refine lv_ldc2 (v := 10) hx hb hown (hts _ (List.mem_cons_of_mem _ tw_433)) d_Ro_times_36 ?_
      refine ed_tl (y := (jI (10))) (by decide +kernel) ?_
      refine ed_lrem hx hb d_Ro_times_39 (by omega) (by omega) (by omega) ?_
      refine ed_l2i hx hb d_Ro_times_40 ?_
      refine ed_i2b hx hb d_Ro_times_41 (by omega) ?_
      refine ed_tz (y := ((pr % 10 : Nat) : Int)) (by omega) ?_
      refine ed_bast hx hb hK hP hD hS 1 0 rfl rfl (dl X - 1 - j) (by omega) (by omega) (by decide) (by omega) d_Ro_times_42 (fun H locs hP hD hS => ?_)
      have hP : va_P D ecl [(r, .inr (3, [.ref rd, .int (iI (((dl X : Nat) : Int))), .int (iI (pt))])), (rd, .inl (cB, 4200, .inl (upd h (dl X - 1 - j) ((iI (((pr % 10 : Nat) : Int)))))))] H := hP
      have hD : va_D A [(r, .inr (3, [.ref rd, .int (iI (((dl X : Nat) : Int))), .int (iI (pt))])), (rd, .inl (cB, 4200, .inl (upd h (dl X - 1 - j) ((iI (((pr % 10 : Nat) : Int)))))))] := hD
      refine lv_lload_n hx hb d_Ro_times_43 rfl (lv_at hl 0 rfl) ?_
      refine ed_pc (pc' := 44) rfl ?_
      refine lv_ldc2 (v := 10) hx hb hown (hts _ (List.mem_cons_of_mem _ tw_433)) d_Ro_times_44 ?_
      refine ed_tl (y := (jI (10))) (by decide +kernel) ?_
      refine ed_ldiv hx hb d_Ro_times_47 (by omega) (by omega) (by omega) ?_
      refine ed_tj (y := ((pr / 10 : Nat) : Int)) (by omega) ?_
      refine lv_lstore_n hx hb d_Ro_times_48 rfl hl (by decide) rfl (fun ls hl => ?_)
      have hl : lv_has ls 7 [(2, .long (jI (((pr / 10 : Nat) : Int)))), (0, .ref r), (1, .int (iI ((F : Int)))), (4, .int (iI (zk)))] := hl
      refine lv_iinc (k := 3) (v := iI (zk + (-1))) hx hb d_Ro_times_49 hl rfl (iI_add _ _) (by decide) rfl (fun ls hl => ?_)
      have hl : lv_has ls 7 [(4, .int (iI (zk + (-1)))), (2, .long (jI (((pr / 10 : Nat) : Int)))), (0, .ref r), (1, .int (iI ((F : Int))))] := hl
      refine lv_goto (tgt := 10) hx hb d_Ro_times_52 rfl ?_
      have hl := lv_sub hl [2, 3, 1, 0] rfl
      exact ih _ (by omega) (j + 1) (_) (pr / 10) _ _ ls H locs rfl (by omega) (by omega) (by rw [hpr, hdi, hcn, Nat.add_comm, Nat.mul_comm F]; exact tm_carry (by decide) X F j) (by omega) (tr_s (by omega) hlo (by rw [hdg])) (tr_h (by omega) hhi) hl hP hD hS
  refine lv_lconst (v := jI 0) hx hb d_Ro_times_0 (by decide +kernel) ?_
  refine lv_lstore_n hx hb d_Ro_times_1 rfl hl (by decide) rfl (fun ls hl => ?_)
  have hl : lv_has ls 7 [(2, .long (jI (0))), (0, .ref r), (1, .int (iI ((F : Int))))] := hl
  refine lv_aload_n hx hb d_Ro_times_2 rfl (lv_at hl 1 rfl) ?_
  refine va_get (D := D) (ci := 3) (v := .int (iI (((dl X : Nat) : Int)))) (C := R_Ro) (T := T_Ro) (N := 3) hx hb hts (fun w h => List.mem_cons_of_mem _ (in_Ro w h)) hown hK hP 0 rfl rfl 1 (by decide) (hts _ (List.mem_cons_of_mem _ tw_361)) (fun _ h9 => h9) rfl d_Ro_times_3 ?_
  refine lv_iconst (v := iI 1) hx hb d_Ro_times_6 rfl ?_
  refine ed_isub hx hb d_Ro_times_7 ?_
  refine lv_istore hx hb d_Ro_times_8 hl (by decide) rfl (fun ls hl => ?_)
  have hl : lv_has ls 7 [(4, .int (iI ((((dl X : Nat) : Int)) - (1)))), (2, .long (jI (0))), (0, .ref r), (1, .int (iI ((F : Int))))] := hl
  have hl := lv_sub hl [2, 3, 1, 0] rfl
  exact L10 _ (0) (d) (0) _ _ ls s.heap [] rfl (by omega) (rfl) (by simp [Nat.mod_one]) (by omega) (fun i h1 h2 => by omega) (fun i hi => hg2 i (by omega)) hl hP hD hS
