set_option maxHeartbeats 4000000 in
set_option maxRecDepth 100000 in
theorem c_Ro_shift (l : Launch) (D : va_G) (cB cI cJ : ClassId) (t5 : Nat) (ad : Nat → Nat) (r rd : Nat) (d : Nat → Int32) (pt k : Int) (X : Nat) (hg : rw_ok d X) (h41 : dl (X * tw2 k) ≤ 4100) (hk : -3000 ≤ k ∧ k ≤ 3000) (hpt : -50000000 ≤ pt ∧ pt ≤ 50000000) : c_V l m_Ro_shift (Cond.code m_Ro_shift b_Ro_shift 3 none :: gw) (rm_ 3 117) (eX t5 ad) D ecl (tyS cB cI cJ) [.ref r, .int (iI (k))] [(r, .inr (3, [.ref rd, .int (iI (((dl X : Nat) : Int))), .int (iI (pt))])), (rd, .inl (cB, 4200, .inl d))] (fun u => ∃ d' : Nat → Int32, rw_ok d' (rz (X * tw2 k)) ∧ u = [(r, .inr (3, [.ref rd, .int (iI (((dl (rz (X * tw2 k)) : Nat) : Int))), .int (iI (if X = 0 then pt else pt + (((dl (X * tw2 k) : Nat) : Int) - ((dl X : Nat) : Int)) + min k 0))])), (rd, .inl (cB, 4200, .inl d'))]) 0 0 := by
  intro sz0
  refine Met.ofW (cc := b_Ro_shift) (maxL := 3) (ret := none) (by decide) rfl ?_
  intro p e s m args below meth c s₁ B hml hv
  obtain ⟨rfl, hsz, hP, hK, hD0, hE⟩ := hv
  have hx := B.exec
  have hb := B.bytes
  have hr := B.returns
  have hts := atoms_spec (ws := Cond.code m_Ro_shift b_Ro_shift 3 none :: gw) B.pre
  have hown : s.vm.findClass R_Ro = some m.cls := findClass_of_methodNamed B.named
  have hlocks := B.notSynchronized
  subst hsz
  have hD := hD0.self (sz := s.heap.size)
  generalize hAe : va_A [(r, .inr (3, [.ref rd, .int (iI (((dl X : Nat) : Int))), .int (iI (pt))])), (rd, .inl (cB, 4200, .inl d))] s.heap.size = A at hD hE ⊢
  have hA : ∀ q : Nat, s.heap.size ≤ q → A q := fun q h => by rw [← hAe]; exact Or.inr h
  have hS : va_S A s.heap s.heap [] := va_S.rf
  have hl := lv_entry ([.ref r, .int (iI (k))]) (n := 3) (Nat.le_of_ble_eq_true rfl)
  rw [lg_entry_eq]
  generalize (lg_sl ([.ref r, .int (iI (k))]) ++ List.replicate (3 - (lg_sl ([.ref r, .int (iI (k))])).length) Slot.unset).toArray = ls at hl ⊢
  have hl : lv_has ls 3 [(0, .ref r), (1, .int (iI (k)))] := hl
  have hg1 := hg.1
  have hX41 : dl X ≤ 4100 := Nat.le_trans (dl_mono (Nat.le_mul_of_pos_right X (tw2_pos k))) h41
  have hd0 : dl X = 0 ↔ X = 0 := ⟨fun z => dl_eq0 z, fun z => by rw [z, dl_0]⟩
  have L28 : ∀ (n9 : Nat) (j : Nat) (h : Nat → Int32) (zi : Int) (zn : Int) (zp : Int) (ls : Array Slot) (H : Heap) (locs : List Loc), (-k).toNat - j = n9 → (0 < X) → (zi = -(j : Int)) → (j ≤ (-k).toNat) → (zn = ((dl (rz (X * tw2p k * 5 ^ j)) : Nat) : Int)) → (zp = pt + (((dl (X * tw2p k * 5 ^ j) : Nat) : Int) - ((dl X : Nat) : Int)) - (j : Int)) → (rw_ok h (rz (X * tw2p k * 5 ^ j))) → lv_has ls 3 [(0, .ref r), (1, .int (iI (k))), (2, .int (iI (zi)))] → va_P D ecl [(r, .inr (3, [.ref rd, .int (iI (zn)), .int (iI (zp))])), (rd, .inl (cB, 4200, .inl h))] H → va_D A [(r, .inr (3, [.ref rd, .int (iI (zn)), .int (iI (zp))])), (rd, .inl (cB, 4200, .inl h))] → va_S A s.heap H locs → W p l e (headSpec (Cond.code m_Ro_shift b_Ro_shift 3 none :: gw) (rm_ 3 117)).room s m ([.ref r, .int (iI (k))] : List Value).toArray below meth c H locs 0 0 (MQ below (va_Qv (fun u => ∃ d' : Nat → Int32, rw_ok d' (rz (X * tw2 k)) ∧ u = [(r, .inr (3, [.ref rd, .int (iI (((dl (rz (X * tw2 k)) : Nat) : Int))), .int (iI (if X = 0 then pt else pt + (((dl (X * tw2 k) : Nat) : Int) - ((dl X : Nat) : Int)) + min k 0))])), (rd, .inl (cB, 4200, .inl d'))]) (c_B D ecl A) A) ([.ref r, .int (iI (k))] : List Value).toArray s 0 0 A) (F0 m 28 ls []) := by
    intro n9
    induction n9 using Nat.strongRecOn with
    | ind n9 ih =>
    intro j h zi zn zp ls H locs hn9 hXp hzi hj hzn hzp hh hl hP hD hS
    refine lv_iload_n hx hb d_Ro_shift_28 rfl (lv_at hl 2 rfl) ?_
    refine lv_iload_n hx hb d_Ro_shift_29 rfl (lv_at hl 1 rfl) ?_
    refine ed_icmp_le (tgt := 54) hx hb d_Ro_shift_30 rfl (by omega) (by omega) (fun h_1 => ?_) (fun h_1 => ?_)
    · skip
      refine ed_pc (pc' := 54) rfl ?_
      have hje : j = (-k).toNat := by omega
      rw [hje, tw2_b] at hzn hzp hh
      exact W.vret hx hb hr (fun t9 ht9 hW9 => ⟨⟨[(r, .inr (3, [.ref rd, .int (iI (zn)), .int (iI (zp))])), (rd, .inl (cB, 4200, .inl h))], rfl, ⟨h, hh, by rw [hzn, if_neg (by omega), show zp = pt + (((dl (X * tw2 k) : Nat) : Int) - ((dl X : Nat) : Int)) + min k 0 by omega]⟩, by rw [ht9]; exact hP, hD⟩, hS.F ht9⟩) hS.2.2 d_Ro_shift_54
    · skip
      refine ed_pc (pc' := 33) rfl ?_
      refine lv_aload_n hx hb d_Ro_shift_33 rfl (lv_at hl 0 rfl) ?_
      refine lv_iconst (v := iI 5) hx hb d_Ro_shift_34 rfl ?_
      obtain ⟨Z, hZ⟩ : ∃ Z : Nat, Z = X * tw2p k * 5 ^ j := ⟨_, rfl⟩
      have hZp : 0 < Z := by rw [hZ]; exact Nat.mul_pos (Nat.mul_pos hXp (p2_pos _)) (Nat.pow_pos (by decide))
      have hZ5 : X * tw2p k * 5 ^ (j + 1) = Z * 5 := by rw [hZ, Nat.pow_succ, Nat.mul_assoc (X * tw2p k)]
      have hZl : Z * 5 ≤ X * tw2 k := by rw [← hZ5, ← tw2_b]; exact Nat.mul_le_mul_left _ (Nat.pow_le_pow_right (by decide) (by omega))
      have hZ41 := dl_mono hZl
      have hZm := dl_mono (Nat.le_mul_of_pos_right Z (show 0 < 5 by decide))
      have hZr := dl_mono (rz_le Z)
      have htel := dl_tele (b := 5) hZp (by decide)
      rw [← hZ] at hzn hzp hh
      have hXm : dl X ≤ dl Z := by rw [hZ, Nat.mul_assoc]; exact dl_mono (Nat.le_mul_of_pos_right X (Nat.mul_pos (p2_pos _) (Nat.pow_pos (by decide))))
      subst hzn
      have hrzm := rz_mr Z 5
      refine c_fv (wc := [(r, .inr (3, [.ref rd, .int (iI (((dl (rz Z) : Nat) : Int))), .int (iI (zp))])), (rd, .inl (cB, 4200, .inl h))]) (wr := []) (va_runV (C := "ExactDigitsModel$Row") (As := [.int (iI (5))]) (rest := []) ⟨hx, hb, hml, hown, hts⟩ (c_Ro_times l D cB cI cJ t5 ad r rd h zp (rz Z) 5 (rz_pos hZp) (by decide) (by omega) hh (by omega) H.size) (cwV 1 hts (gV tw_458 tw_459 tw_460 tw_4 tw_461) rfl rfl rfl (by decide +kernel) ⟨Nat.le_of_ble_eq_true rfl, Nat.le_of_ble_eq_true rfl⟩) ⟨c_blind (eX_X t5 ad), va_recv (ci := 3) (q0 := 0) hK hP rfl rfl, fun U hU hW => c_pre (wc := [(r, .inr (3, [.ref rd, .int (iI (((dl (rz Z) : Nat) : Int))), .int (iI (zp))])), (rd, .inl (cB, 4200, .inl h))]) (eX_X t5 ad) hE hK hP hD hS hA [0, 1] rfl (by decide) U hU hW⟩ rfl rfl hl.1 rfl (lv_room (Nat.le_of_ble_eq_true rfl)) d_Ro_shift_35 ⟨Nat.le_of_ble_eq_true rfl, Nat.le_of_ble_eq_true rfl⟩) hP hD hS hA [0, 1] [] rfl rfl (by decide) (by decide) (fun u H locs hp hP hD hS => ?_)
      obtain ⟨d3, hok3, rfl⟩ := hp
      have hP : va_P D ecl [(r, .inr (3, [.ref rd, .int (iI (((dl (rz (rz Z * 5)) : Nat) : Int))), .int (iI (zp + (((dl (rz Z * 5) : Nat) : Int) - ((dl (rz Z) : Nat) : Int))))])), (rd, .inl (cB, 4200, .inl d3))] H := hP
      have hD : va_D A [(r, .inr (3, [.ref rd, .int (iI (((dl (rz (rz Z * 5)) : Nat) : Int))), .int (iI (zp + (((dl (rz Z * 5) : Nat) : Int) - ((dl (rz Z) : Nat) : Int))))])), (rd, .inl (cB, 4200, .inl d3))] := hD
      rw [hrzm, ← hZ5] at hok3
      rw [hrzm, ← hZ5] at hP hD
      have hP : va_P D ecl [(r, .inr (3, [.ref rd, .int (iI (((dl (rz (X * tw2p k * 5 ^ (j + 1))) : Nat) : Int))), .int (iI (zp + (((dl (rz Z * 5) : Nat) : Int) - ((dl (rz Z) : Nat) : Int))))])), (rd, .inl (cB, 4200, .inl d3))] H := hP
      have hD : va_D A [(r, .inr (3, [.ref rd, .int (iI (((dl (rz (X * tw2p k * 5 ^ (j + 1))) : Nat) : Int))), .int (iI (zp + (((dl (rz Z * 5) : Nat) : Int) - ((dl (rz Z) : Nat) : Int))))])), (rd, .inl (cB, 4200, .inl d3))] := hD
      rw [← hZ5] at htel
      refine lv_aload_n hx hb d_Ro_shift_38 rfl (lv_at hl 0 rfl) ?_
      refine ed_pc (pc' := 39) rfl ?_
      refine lv_dup hx hb d_Ro_shift_39 rfl ?_
      refine va_get (D := D) (ci := 3) (v := .int (iI (zp + (((dl (rz Z * 5) : Nat) : Int) - ((dl (rz Z) : Nat) : Int))))) (C := R_Ro) (T := T_Ro) (N := 3) hx hb hts (fun w h => List.mem_cons_of_mem _ (in_Ro w h)) hown hK hP 0 rfl rfl 2 (by decide) (hts _ (List.mem_cons_of_mem _ tw_363)) (fun _ h9 => h9) rfl d_Ro_shift_40 ?_
      refine lv_iconst (v := iI 1) hx hb d_Ro_shift_43 rfl ?_
      refine ed_isub hx hb d_Ro_shift_44 ?_
      refine va_put (D := D) (ci := 3) (v := .int (iI ((zp + (((dl (rz Z * 5) : Nat) : Int) - ((dl (rz Z) : Nat) : Int))) - (1)))) (ty := .int) (C := R_Ro) (T := T_Ro) (N := 3) hx hb hts (fun w h => List.mem_cons_of_mem _ (in_Ro w h)) y_Ro t_Ro n_Ro hown hK hP hD hS 0 rfl rfl 2 (by decide) (hts _ (List.mem_cons_of_mem _ tw_363)) (fun _ h9 => h9) rfl (by decide +kernel) rfl rfl (Nat.le_of_ble_eq_true rfl) d_Ro_shift_45 (fun H locs hP hD hS => ?_)
      have hP : va_P D ecl [(r, .inr (3, [.ref rd, .int (iI (((dl (rz (X * tw2p k * 5 ^ (j + 1))) : Nat) : Int))), .int (iI ((zp + (((dl (rz Z * 5) : Nat) : Int) - ((dl (rz Z) : Nat) : Int))) - (1)))])), (rd, .inl (cB, 4200, .inl d3))] H := hP
      have hD : va_D A [(r, .inr (3, [.ref rd, .int (iI (((dl (rz (X * tw2p k * 5 ^ (j + 1))) : Nat) : Int))), .int (iI ((zp + (((dl (rz Z * 5) : Nat) : Int) - ((dl (rz Z) : Nat) : Int))) - (1)))])), (rd, .inl (cB, 4200, .inl d3))] := hD
      refine lv_iinc (k := 2) (v := iI (zi + (-1))) hx hb d_Ro_shift_48 hl rfl (iI_add _ _) (by decide) rfl (fun ls hl => ?_)
      have hl : lv_has ls 3 [(2, .int (iI (zi + (-1)))), (0, .ref r), (1, .int (iI (k)))] := hl
      refine lv_goto (tgt := 28) hx hb d_Ro_shift_51 rfl ?_
      have hl := lv_sub hl [1, 2, 0] rfl
      exact ih _ (by omega) (j + 1) (d3) _ _ _ ls H locs rfl (hXp) (by omega) (by omega) (rfl) (by omega) (hok3) hl hP hD hS
  have L10 : ∀ (n9 : Nat) (j : Nat) (h : Nat → Int32) (zi : Int) (zn : Int) (zp : Int) (ls : Array Slot) (H : Heap) (locs : List Loc), k.toNat - j = n9 → (0 < X) → (zi = (j : Int)) → (j ≤ k.toNat) → (zn = ((dl (rz (X * 2 ^ j)) : Nat) : Int)) → (zp = pt + (((dl (X * 2 ^ j) : Nat) : Int) - ((dl X : Nat) : Int))) → (rw_ok h (rz (X * 2 ^ j))) → lv_has ls 3 [(0, .ref r), (1, .int (iI (k))), (2, .int (iI (zi)))] → va_P D ecl [(r, .inr (3, [.ref rd, .int (iI (zn)), .int (iI (zp))])), (rd, .inl (cB, 4200, .inl h))] H → va_D A [(r, .inr (3, [.ref rd, .int (iI (zn)), .int (iI (zp))])), (rd, .inl (cB, 4200, .inl h))] → va_S A s.heap H locs → W p l e (headSpec (Cond.code m_Ro_shift b_Ro_shift 3 none :: gw) (rm_ 3 117)).room s m ([.ref r, .int (iI (k))] : List Value).toArray below meth c H locs 0 0 (MQ below (va_Qv (fun u => ∃ d' : Nat → Int32, rw_ok d' (rz (X * tw2 k)) ∧ u = [(r, .inr (3, [.ref rd, .int (iI (((dl (rz (X * tw2 k)) : Nat) : Int))), .int (iI (if X = 0 then pt else pt + (((dl (X * tw2 k) : Nat) : Int) - ((dl X : Nat) : Int)) + min k 0))])), (rd, .inl (cB, 4200, .inl d'))]) (c_B D ecl A) A) ([.ref r, .int (iI (k))] : List Value).toArray s 0 0 A) (F0 m 10 ls []) := by
    intro n9
    induction n9 using Nat.strongRecOn with
    | ind n9 ih =>
    intro j h zi zn zp ls H locs hn9 hXp hzi hj hzn hzp hh hl hP hD hS
    refine lv_iload_n hx hb d_Ro_shift_10 rfl (lv_at hl 2 rfl) ?_
    refine lv_iload_n hx hb d_Ro_shift_11 rfl (lv_at hl 1 rfl) ?_
    refine ed_icmp_ge (tgt := 26) hx hb d_Ro_shift_12 rfl (by omega) (by omega) (fun h_2 => ?_) (fun h_2 => ?_)
    · skip
      refine ed_pc (pc' := 26) rfl ?_
      have hje : j = k.toNat := by omega
      rw [hje] at hzn hzp hh
      have hznE : zn = ((dl (rz (X * tw2p k)) : Nat) : Int) := hzn
      have hzpE : zp = pt + (((dl (X * tw2p k) : Nat) : Int) - ((dl X : Nat) : Int)) := hzp
      have hhE : rw_ok h (rz (X * tw2p k)) := hh
      refine lv_iconst (v := iI 0) hx hb d_Ro_shift_26 rfl ?_
      refine lv_istore_n hx hb d_Ro_shift_27 rfl hl (by decide) rfl (fun ls hl => ?_)
      have hl : lv_has ls 3 [(2, .int (iI (0))), (0, .ref r), (1, .int (iI (k)))] := hl
      have hl := lv_sub hl [1, 2, 0] rfl
      exact L28 _ (0) (h) _ _ _ ls H locs rfl (hXp) (rfl) (by omega) (by rw [Nat.pow_zero, Nat.mul_one]; exact hznE) (by rw [Nat.pow_zero, Nat.mul_one]; omega) (by rw [Nat.pow_zero, Nat.mul_one]; exact hhE) hl hP hD hS
    · skip
      refine ed_pc (pc' := 15) rfl ?_
      refine lv_aload_n hx hb d_Ro_shift_15 rfl (lv_at hl 0 rfl) ?_
      refine lv_iconst (v := iI 2) hx hb d_Ro_shift_16 rfl ?_
      obtain ⟨Z, hZ⟩ : ∃ Z : Nat, Z = X * 2 ^ j := ⟨_, rfl⟩
      have hZp : 0 < Z := by rw [hZ]; exact Nat.mul_pos hXp (p2_pos _)
      have hZ5 : X * 2 ^ (j + 1) = Z * 2 := by rw [hZ, Nat.pow_succ, Nat.mul_assoc X]
      have hZl : Z * 2 ≤ X * tw2 k := by rw [← hZ5]; exact Nat.le_trans (Nat.mul_le_mul_left _ (Nat.pow_le_pow_right (by decide) (show j + 1 ≤ k.toNat by omega))) (tw2_a X k)
      have hZ41 := dl_mono hZl
      have hZm := dl_mono (Nat.le_mul_of_pos_right Z (show 0 < 2 by decide))
      have hZr := dl_mono (rz_le Z)
      have htel := dl_tele (b := 2) hZp (by decide)
      rw [← hZ] at hzn hzp hh
      have hXm : dl X ≤ dl Z := by rw [hZ]; exact dl_mono (Nat.le_mul_of_pos_right X (p2_pos _))
      subst hzn
      have hrzm := rz_mr Z 2
      refine c_fv (wc := [(r, .inr (3, [.ref rd, .int (iI (((dl (rz Z) : Nat) : Int))), .int (iI (zp))])), (rd, .inl (cB, 4200, .inl h))]) (wr := []) (va_runV (C := "ExactDigitsModel$Row") (As := [.int (iI (2))]) (rest := []) ⟨hx, hb, hml, hown, hts⟩ (c_Ro_times l D cB cI cJ t5 ad r rd h zp (rz Z) 2 (rz_pos hZp) (by decide) (by omega) hh (by omega) H.size) (cwV 1 hts (gV tw_458 tw_459 tw_460 tw_4 tw_461) rfl rfl rfl (by decide +kernel) ⟨Nat.le_of_ble_eq_true rfl, Nat.le_of_ble_eq_true rfl⟩) ⟨c_blind (eX_X t5 ad), va_recv (ci := 3) (q0 := 0) hK hP rfl rfl, fun U hU hW => c_pre (wc := [(r, .inr (3, [.ref rd, .int (iI (((dl (rz Z) : Nat) : Int))), .int (iI (zp))])), (rd, .inl (cB, 4200, .inl h))]) (eX_X t5 ad) hE hK hP hD hS hA [0, 1] rfl (by decide) U hU hW⟩ rfl rfl hl.1 rfl (lv_room (Nat.le_of_ble_eq_true rfl)) d_Ro_shift_17 ⟨Nat.le_of_ble_eq_true rfl, Nat.le_of_ble_eq_true rfl⟩) hP hD hS hA [0, 1] [] rfl rfl (by decide) (by decide) (fun u H locs hp hP hD hS => ?_)
      obtain ⟨d3, hok3, rfl⟩ := hp
      have hP : va_P D ecl [(r, .inr (3, [.ref rd, .int (iI (((dl (rz (rz Z * 2)) : Nat) : Int))), .int (iI (zp + (((dl (rz Z * 2) : Nat) : Int) - ((dl (rz Z) : Nat) : Int))))])), (rd, .inl (cB, 4200, .inl d3))] H := hP
      have hD : va_D A [(r, .inr (3, [.ref rd, .int (iI (((dl (rz (rz Z * 2)) : Nat) : Int))), .int (iI (zp + (((dl (rz Z * 2) : Nat) : Int) - ((dl (rz Z) : Nat) : Int))))])), (rd, .inl (cB, 4200, .inl d3))] := hD
      rw [hrzm, ← hZ5] at hok3
      rw [hrzm, ← hZ5] at hP hD
      have hP : va_P D ecl [(r, .inr (3, [.ref rd, .int (iI (((dl (rz (X * 2 ^ (j + 1))) : Nat) : Int))), .int (iI (zp + (((dl (rz Z * 2) : Nat) : Int) - ((dl (rz Z) : Nat) : Int))))])), (rd, .inl (cB, 4200, .inl d3))] H := hP
      have hD : va_D A [(r, .inr (3, [.ref rd, .int (iI (((dl (rz (X * 2 ^ (j + 1))) : Nat) : Int))), .int (iI (zp + (((dl (rz Z * 2) : Nat) : Int) - ((dl (rz Z) : Nat) : Int))))])), (rd, .inl (cB, 4200, .inl d3))] := hD
      rw [← hZ5] at htel
      refine lv_iinc (k := 2) (v := iI (zi + 1)) hx hb d_Ro_shift_20 hl rfl (iI_add _ _) (by decide) rfl (fun ls hl => ?_)
      have hl : lv_has ls 3 [(2, .int (iI (zi + 1))), (0, .ref r), (1, .int (iI (k)))] := hl
      refine ed_pc (pc' := 23) rfl ?_
      refine lv_goto (tgt := 10) hx hb d_Ro_shift_23 rfl ?_
      have hl := lv_sub hl [1, 2, 0] rfl
      exact ih _ (by omega) (j + 1) (d3) _ _ _ ls H locs rfl (hXp) (by omega) (by omega) (rfl) (by omega) (hok3) hl hP hD hS
  refine lv_aload_n hx hb d_Ro_shift_0 rfl (lv_at hl 0 rfl) ?_
  refine va_get (D := D) (ci := 3) (v := .int (iI (((dl X : Nat) : Int)))) (C := R_Ro) (T := T_Ro) (N := 3) hx hb hts (fun w h => List.mem_cons_of_mem _ (in_Ro w h)) hown hK hP 0 rfl rfl 1 (by decide) (hts _ (List.mem_cons_of_mem _ tw_361)) (fun _ h9 => h9) rfl d_Ro_shift_1 ?_
  refine ed_if_ne (tgt := 8) hx hb d_Ro_shift_4 rfl (by omega) (fun h_3 => ?_) (fun h_3 => ?_)
  · skip
    refine ed_pc (pc' := 8) rfl ?_
    refine lv_iconst (v := iI 0) hx hb d_Ro_shift_8 rfl ?_
    refine lv_istore_n hx hb d_Ro_shift_9 rfl hl (by decide) rfl (fun ls hl => ?_)
    have hl : lv_has ls 3 [(2, .int (iI (0))), (0, .ref r), (1, .int (iI (k)))] := hl
    have hl := lv_sub hl [1, 2, 0] rfl
    exact L10 _ (0) (d) _ _ _ ls s.heap [] rfl (by rcases Nat.eq_zero_or_pos X with z | z; exact absurd (hd0.mpr z) (by omega); exact z) (rfl) (by omega) (by rw [Nat.pow_zero, Nat.mul_one, hg1]) (by rw [Nat.pow_zero, Nat.mul_one]; omega) (by rw [Nat.pow_zero, Nat.mul_one, hg1]; exact hg) hl hP hD hS
  · skip
    refine ed_pc (pc' := 7) rfl ?_
    have hX0 : X = 0 := hd0.mp (by omega)
    exact W.vret hx hb hr (fun t9 ht9 hW9 => ⟨⟨[(r, .inr (3, [.ref rd, .int (iI (((dl X : Nat) : Int))), .int (iI (pt))])), (rd, .inl (cB, 4200, .inl d))], rfl, ⟨d, by rw [hX0, Nat.zero_mul, rz_0]; exact ⟨rz_0, fun i hi => by rw [dl_0] at hi; omega⟩, by rw [if_pos hX0, hX0, Nat.zero_mul, rz_0]⟩, by rw [ht9]; exact hP, hD⟩, hS.F ht9⟩) hS.2.2 d_Ro_shift_7
