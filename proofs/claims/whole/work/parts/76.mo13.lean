set_option maxHeartbeats 4000000 in
set_option maxRecDepth 100000 in
theorem c_Mo_real (l : Launch) (D : va_G) (cB cI cJ : ClassId) (t5 : Nat) (ad : Nat → Nat) (mo nb nd un ov xx dc : Nat) (d : Nat → Int32) (zn pt zl th pw zk zz : Int) (ma : Int64) (kf b : Nat) (hzz : iR zz) (hkf9 : kf = if zz = 0 then 0 else 1) (hb64 : b < 2 ^ 64) (y : Nat) (hyb : y = b % (mkz kf + 1)) (hy : y < ifz kf) : c_I l m_Mo_real (Cond.code m_Mo_real b_Mo_real 4 (some .int) :: gw) (rm_ 4 139) (eX t5 ad) D ecl (tyS cB cI cJ) [.ref mo, .long (lN b), .int (iI (zz))] [(mo, .inr (4, [.ref nb, .ref un, .ref ov, .ref xx, .ref dc, .int (iI (zl)), .int (iI (th)), .long (ma), .int (iI (pw)), .int (iI (zk))])), (nb, .inr (3, [.ref nd, .int (iI (zn)), .int (iI (pt))])), (nd, .inl (cB, 4200, .inl d))] (fun r u => r = iI ((dl (rz (exV kf y)) : Nat) : Int) ∧ ∃ (d' : Nat → Int32) (ma' : Int64) (pw' zk' : Int), nm_ok d' (rz (exV kf y)) ∧ u = [(mo, .inr (4, [.ref nb, .ref un, .ref ov, .ref xx, .ref dc, .int (iI (0)), .int (iI (0)), .long (ma'), .int (iI (pw')), .int (iI (zk'))])), (nb, .inr (3, [.ref nd, .int (iI (((dl (rz (exV kf y)) : Nat) : Int))), .int (iI (if y = 0 then 0 else ((dl (exV kf y) : Nat) : Int) + min (lez kf + ((exE kf y : Nat) : Int)) 0))])), (nd, .inl (cB, 4200, .inl d'))]) 0 0 := by
  intro sz0
  refine Met.ofW (cc := b_Mo_real) (maxL := 4) (ret := (some .int)) (by decide) rfl ?_
  intro p e s m args below meth c s₁ B hml hv
  obtain ⟨rfl, hsz, hP, hK, hD0, hE⟩ := hv
  have hx := B.exec
  have hb := B.bytes
  have hr := B.returns
  have hts := atoms_spec (ws := Cond.code m_Mo_real b_Mo_real 4 (some .int) :: gw) B.pre
  have hown : s.vm.findClass R_Mo = some m.cls := findClass_of_methodNamed B.named
  have hlocks := B.notSynchronized
  subst hsz
  have hD := hD0.self (sz := s.heap.size)
  generalize hAe : va_A [(mo, .inr (4, [.ref nb, .ref un, .ref ov, .ref xx, .ref dc, .int (iI (zl)), .int (iI (th)), .long (ma), .int (iI (pw)), .int (iI (zk))])), (nb, .inr (3, [.ref nd, .int (iI (zn)), .int (iI (pt))])), (nd, .inl (cB, 4200, .inl d))] s.heap.size = A at hD hE ⊢
  have hA : ∀ q : Nat, s.heap.size ≤ q → A q := fun q h => by rw [← hAe]; exact Or.inr h
  have hS : va_S A s.heap s.heap [] := va_S.rf
  have hl := lv_entry ([.ref mo, .long (lN b), .int (iI (zz))]) (n := 4) (Nat.le_of_ble_eq_true rfl)
  rw [lg_entry_eq]
  generalize (lg_sl ([.ref mo, .long (lN b), .int (iI (zz))]) ++ List.replicate (4 - (lg_sl ([.ref mo, .long (lN b), .int (iI (zz))])).length) Slot.unset).toArray = ls at hl ⊢
  have hl : lv_has ls 4 [(0, .ref mo), (1, .long (lN b)), (3, .int (iI (zz)))] := hl
  have hkf : kf < 2 := by rw [hkf9]; split <;> decide
  have hz := fz_all kf hkf
  have hez := ex_e hkf hy
  obtain ⟨hsm, hsc⟩ := ex_m kf y
  have hs53 : 2 ^ (fbz kf + 1) ≤ 2 ^ 53 := Nat.pow_le_pow_right (by decide) (by omega)
  obtain ⟨S0, hS0⟩ : ∃ S0 : Nat, S0 = sgz kf y := ⟨_, rfl⟩
  have hy0 : S0 = 0 ↔ y = 0 := by rw [hS0]; exact ex_0
  refine lv_aload_n hx hb d_Mo_real_0 rfl (lv_at hl 0 rfl) ?_
  refine lv_lload_n hx hb d_Mo_real_1 rfl (lv_at hl 1 rfl) ?_
  refine lv_iload_n hx hb d_Mo_real_2 rfl (lv_at hl 2 rfl) ?_
  refine c_fi (wc := [(mo, .inr (4, [.ref nb, .ref un, .ref ov, .ref xx, .ref dc, .int (iI (zl)), .int (iI (th)), .long (ma), .int (iI (pw)), .int (iI (zk))]))]) (wr := [(nb, .inr (3, [.ref nd, .int (iI (zn)), .int (iI (pt))])), (nd, .inl (cB, 4200, .inl d))]) (va_runV (C := "ExactDigitsModel") (As := [.long (lN b), .int (iI (zz))]) (rest := []) ⟨hx, hb, hml, hown, hts⟩ (c_Mo_isNumber l D cB cI cJ t5 ad mo nb un ov xx dc zl th pw zk zz ma kf b hzz hkf9 hb64 y hyb hy s.heap.size) (cwV 2 hts (gV tw_449 tw_451 ts_15 tw_3 tw_452) rfl rfl rfl (by decide +kernel) ⟨Nat.le_of_ble_eq_true rfl, Nat.le_of_ble_eq_true rfl⟩) ⟨c_blind (eX_X t5 ad), va_recv (ci := 4) (q0 := 0) hK hP rfl rfl, fun U hU hW => c_pre (wc := [(mo, .inr (4, [.ref nb, .ref un, .ref ov, .ref xx, .ref dc, .int (iI (zl)), .int (iI (th)), .long (ma), .int (iI (pw)), .int (iI (zk))]))]) (eX_X t5 ad) hE hK hP hD hS hA [0] rfl (by decide) U hU hW⟩ rfl rfl hl.1 rfl (lv_room (Nat.le_of_ble_eq_true rfl)) d_Mo_real_3 ⟨Nat.le_of_ble_eq_true rfl, Nat.le_of_ble_eq_true rfl⟩) hP hD hS hA [0] [1, 2] rfl rfl (by decide) (by decide) (fun r u H locs hp hP hD hS => ?_)
  obtain ⟨rfl, zk2, hzk2, rfl⟩ := hp
  have hP : va_P D ecl [(nb, .inr (3, [.ref nd, .int (iI (zn)), .int (iI (pt))])), (nd, .inl (cB, 4200, .inl d)), (mo, .inr (4, [.ref nb, .ref un, .ref ov, .ref xx, .ref dc, .int (iI (0)), .int (iI (0)), .long (lN (sgz kf y)), .int (iI (lez kf + ((exE kf y : Nat) : Int))), .int (iI (zk2))]))] H := hP
  have hD : va_D A [(nb, .inr (3, [.ref nd, .int (iI (zn)), .int (iI (pt))])), (nd, .inl (cB, 4200, .inl d)), (mo, .inr (4, [.ref nb, .ref un, .ref ov, .ref xx, .ref dc, .int (iI (0)), .int (iI (0)), .long (lN (sgz kf y)), .int (iI (lez kf + ((exE kf y : Nat) : Int))), .int (iI (zk2))]))] := hD
  refine ed_if_ne (tgt := 11) hx hb d_Mo_real_6 rfl (by omega) (fun h_1 => ?_) (fun h_1 => ?_)
  · skip
    refine ed_pc (pc' := 11) rfl ?_
    refine lv_aload_n hx hb d_Mo_real_11 rfl (lv_at hl 0 rfl) ?_
    refine va_get (D := D) (ci := 4) (v := .ref nb) (C := R_Mo) (T := T_Mo) (N := 10) hx hb hts (fun w h => List.mem_cons_of_mem _ (in_Mo w h)) hown hK hP 2 rfl rfl 0 (by decide) (hts _ (List.mem_cons_of_mem _ tw_390)) (fun _ h9 => h9) rfl d_Mo_real_12 ?_
    refine ed_pc (pc' := 15) rfl ?_
    refine lv_aload_n hx hb d_Mo_real_15 rfl (lv_at hl 0 rfl) ?_
    refine va_get (D := D) (ci := 4) (v := .long (lN (sgz kf y))) (C := R_Mo) (T := T_Mo) (N := 10) hx hb hts (fun w h => List.mem_cons_of_mem _ (in_Mo w h)) hown hK hP 2 rfl rfl 7 (by decide) (hts _ (List.mem_cons_of_mem _ tw_397)) (fun _ h9 => h9) rfl d_Mo_real_16 ?_
    obtain ⟨S1, hSe1⟩ : ∃ S9 : Nat, S9 = sgz kf y := ⟨_, rfl⟩
    have hS9 : S1 < 1000000000000000000 := by omega
    have hdS1 : dl S1 ≤ 18 := dl_bound (show S1 < 10 ^ 18 by omega)
    refine ed_tl (y := (lN S1)) (by rw [hSe1]) ?_
    refine c_fv (wc := [(nb, .inr (3, [.ref nd, .int (iI (zn)), .int (iI (pt))])), (nd, .inl (cB, 4200, .inl d))]) (wr := [(mo, .inr (4, [.ref nb, .ref un, .ref ov, .ref xx, .ref dc, .int (iI (0)), .int (iI (0)), .long (lN (sgz kf y)), .int (iI (lez kf + ((exE kf y : Nat) : Int))), .int (iI (zk2))]))]) (va_runV (C := "ExactDigitsModel$Row") (As := [.long (lN S1)]) (rest := []) ⟨hx, hb, hml, hown, hts⟩ (c_Ro_set l D cB cI cJ t5 ad nb nd d (zn) (pt) S1 (by omega) H.size) (cwV 1 hts (gV tw_429 tw_430 tw_431 tw_4 tw_432) rfl rfl rfl (by decide +kernel) ⟨Nat.le_of_ble_eq_true rfl, Nat.le_of_ble_eq_true rfl⟩) ⟨c_blind (eX_X t5 ad), va_recv (ci := 3) (q0 := 0) hK hP rfl rfl, fun U hU hW => c_pre (wc := [(nb, .inr (3, [.ref nd, .int (iI (zn)), .int (iI (pt))])), (nd, .inl (cB, 4200, .inl d))]) (eX_X t5 ad) hE hK hP hD hS hA [0, 1] rfl (by decide) U hU hW⟩ rfl rfl hl.1 rfl (lv_room (Nat.le_of_ble_eq_true rfl)) d_Mo_real_19 ⟨Nat.le_of_ble_eq_true rfl, Nat.le_of_ble_eq_true rfl⟩) hP hD hS hA [0, 1] [2] rfl rfl (by decide) (by decide) (fun u H locs hp hP hD hS => ?_)
    obtain ⟨da1, hda1, rfl⟩ := hp
    have hP : va_P D ecl [(mo, .inr (4, [.ref nb, .ref un, .ref ov, .ref xx, .ref dc, .int (iI (0)), .int (iI (0)), .long (lN (sgz kf y)), .int (iI (lez kf + ((exE kf y : Nat) : Int))), .int (iI (zk2))])), (nb, .inr (3, [.ref nd, .int (iI (((dl (rz S1) : Nat) : Int))), .int (iI (if S1 = 0 then 0 else ((dl S1 : Nat) : Int)))])), (nd, .inl (cB, 4200, .inl da1))] H := hP
    have hD : va_D A [(mo, .inr (4, [.ref nb, .ref un, .ref ov, .ref xx, .ref dc, .int (iI (0)), .int (iI (0)), .long (lN (sgz kf y)), .int (iI (lez kf + ((exE kf y : Nat) : Int))), .int (iI (zk2))])), (nb, .inr (3, [.ref nd, .int (iI (((dl (rz S1) : Nat) : Int))), .int (iI (if S1 = 0 then 0 else ((dl S1 : Nat) : Int)))])), (nd, .inl (cB, 4200, .inl da1))] := hD
    refine lv_aload_n hx hb d_Mo_real_22 rfl (lv_at hl 0 rfl) ?_
    refine va_get (D := D) (ci := 4) (v := .ref nb) (C := R_Mo) (T := T_Mo) (N := 10) hx hb hts (fun w h => List.mem_cons_of_mem _ (in_Mo w h)) hown hK hP 0 rfl rfl 0 (by decide) (hts _ (List.mem_cons_of_mem _ tw_390)) (fun _ h9 => h9) rfl d_Mo_real_23 ?_
    refine lv_aload_n hx hb d_Mo_real_26 rfl (lv_at hl 0 rfl) ?_
    refine va_get (D := D) (ci := 4) (v := .int (iI (lez kf + ((exE kf y : Nat) : Int)))) (C := R_Mo) (T := T_Mo) (N := 10) hx hb hts (fun w h => List.mem_cons_of_mem _ (in_Mo w h)) hown hK hP 0 rfl rfl 8 (by decide) (hts _ (List.mem_cons_of_mem _ tw_398)) (fun _ h9 => h9) rfl d_Mo_real_27 ?_
    obtain ⟨k1, hke1⟩ : ∃ k9 : Int, k9 = lez kf + ((exE kf y : Nat) : Int) := ⟨_, rfl⟩
    refine ed_tz (y := k1) (hke1.symm) ?_
    have hrS1 := dl_mono (rz_le S1)
    have hpS1 : (-50000000 : Int) ≤ (if S1 = 0 then 0 else ((dl S1 : Nat) : Int)) ∧ (if S1 = 0 then 0 else ((dl S1 : Nat) : Int)) ≤ 50000000 := by split <;> omega
    refine c_fv (wc := [(nb, .inr (3, [.ref nd, .int (iI (((dl (rz S1) : Nat) : Int))), .int (iI (if S1 = 0 then 0 else ((dl S1 : Nat) : Int)))])), (nd, .inl (cB, 4200, .inl da1))]) (wr := [(mo, .inr (4, [.ref nb, .ref un, .ref ov, .ref xx, .ref dc, .int (iI (0)), .int (iI (0)), .long (lN (sgz kf y)), .int (iI (lez kf + ((exE kf y : Nat) : Int))), .int (iI (zk2))]))]) (va_runV (C := "ExactDigitsModel$Row") (As := [.int (iI (k1))]) (rest := []) ⟨hx, hb, hml, hown, hts⟩ (c_Ro_shift l D cB cI cJ t5 ad nb nd da1 (if S1 = 0 then 0 else ((dl S1 : Nat) : Int)) k1 (rz S1) hda1 (sh_41 (by omega) (by omega)) (by omega) hpS1 H.size) (cwV 1 hts (gV tw_454 tw_455 tw_456 tw_4 tw_457) rfl rfl rfl (by decide +kernel) ⟨Nat.le_of_ble_eq_true rfl, Nat.le_of_ble_eq_true rfl⟩) ⟨c_blind (eX_X t5 ad), va_recv (ci := 3) (q0 := 1) hK hP rfl rfl, fun U hU hW => c_pre (wc := [(nb, .inr (3, [.ref nd, .int (iI (((dl (rz S1) : Nat) : Int))), .int (iI (if S1 = 0 then 0 else ((dl S1 : Nat) : Int)))])), (nd, .inl (cB, 4200, .inl da1))]) (eX_X t5 ad) hE hK hP hD hS hA [1, 2] rfl (by decide) U hU hW⟩ rfl rfl hl.1 rfl (lv_room (Nat.le_of_ble_eq_true rfl)) d_Mo_real_30 ⟨Nat.le_of_ble_eq_true rfl, Nat.le_of_ble_eq_true rfl⟩) hP hD hS hA [1, 2] [0] rfl rfl (by decide) (by decide) (fun u H locs hp hP hD hS => ?_)
    obtain ⟨db1, hdb1, rfl⟩ := hp
    have hP : va_P D ecl [(mo, .inr (4, [.ref nb, .ref un, .ref ov, .ref xx, .ref dc, .int (iI (0)), .int (iI (0)), .long (lN (sgz kf y)), .int (iI (lez kf + ((exE kf y : Nat) : Int))), .int (iI (zk2))])), (nb, .inr (3, [.ref nd, .int (iI (((dl (rz (rz S1 * tw2 k1)) : Nat) : Int))), .int (iI (if rz S1 = 0 then (if S1 = 0 then 0 else ((dl S1 : Nat) : Int)) else (if S1 = 0 then 0 else ((dl S1 : Nat) : Int)) + (((dl (rz S1 * tw2 k1) : Nat) : Int) - ((dl (rz S1) : Nat) : Int)) + min k1 0))])), (nd, .inl (cB, 4200, .inl db1))] H := hP
    have hD : va_D A [(mo, .inr (4, [.ref nb, .ref un, .ref ov, .ref xx, .ref dc, .int (iI (0)), .int (iI (0)), .long (lN (sgz kf y)), .int (iI (lez kf + ((exE kf y : Nat) : Int))), .int (iI (zk2))])), (nb, .inr (3, [.ref nd, .int (iI (((dl (rz (rz S1 * tw2 k1)) : Nat) : Int))), .int (iI (if rz S1 = 0 then (if S1 = 0 then 0 else ((dl S1 : Nat) : Int)) else (if S1 = 0 then 0 else ((dl S1 : Nat) : Int)) + (((dl (rz S1 * tw2 k1) : Nat) : Int) - ((dl (rz S1) : Nat) : Int)) + min k1 0))])), (nd, .inl (cB, 4200, .inl db1))] := hD
    rw [rz_mr] at hdb1
    rw [rz_mr, rs_pt] at hP hD
    have hP : va_P D ecl [(mo, .inr (4, [.ref nb, .ref un, .ref ov, .ref xx, .ref dc, .int (iI (0)), .int (iI (0)), .long (lN (sgz kf y)), .int (iI (lez kf + ((exE kf y : Nat) : Int))), .int (iI (zk2))])), (nb, .inr (3, [.ref nd, .int (iI (((dl (rz (S1 * tw2 k1)) : Nat) : Int))), .int (iI (if S1 = 0 then 0 else ((dl (S1 * tw2 k1) : Nat) : Int) + min k1 0))])), (nd, .inl (cB, 4200, .inl db1))] H := hP
    have hD : va_D A [(mo, .inr (4, [.ref nb, .ref un, .ref ov, .ref xx, .ref dc, .int (iI (0)), .int (iI (0)), .long (lN (sgz kf y)), .int (iI (lez kf + ((exE kf y : Nat) : Int))), .int (iI (zk2))])), (nb, .inr (3, [.ref nd, .int (iI (((dl (rz (S1 * tw2 k1)) : Nat) : Int))), .int (iI (if S1 = 0 then 0 else ((dl (S1 * tw2 k1) : Nat) : Int) + min k1 0))])), (nd, .inl (cB, 4200, .inl db1))] := hD
    have hVe : S1 * tw2 k1 = exV kf y := by rw [hSe1, hke1]; rfl
    have hd12 := ex_dl hkf hy
    have hdr := dl_mono (rz_le (exV kf y))
    have hif1 : (if S1 = 0 then 0 else ((dl (S1 * tw2 k1) : Nat) : Int) + min k1 0) = (if y = 0 then 0 else ((dl (exV kf y) : Nat) : Int) + min (lez kf + ((exE kf y : Nat) : Int)) 0) := by rw [hVe, hke1, hSe1]; by_cases z : y = 0; rw [if_pos z, if_pos (ex_0.mpr z)]; rw [if_neg z, if_neg (fun q => z (ex_0.mp q))]
    rw [hif1] at hP hD
    rw [hVe] at hP hD hdb1
    have hP : va_P D ecl [(mo, .inr (4, [.ref nb, .ref un, .ref ov, .ref xx, .ref dc, .int (iI (0)), .int (iI (0)), .long (lN (sgz kf y)), .int (iI (lez kf + ((exE kf y : Nat) : Int))), .int (iI (zk2))])), (nb, .inr (3, [.ref nd, .int (iI (((dl (rz (exV kf y)) : Nat) : Int))), .int (iI (if y = 0 then 0 else ((dl (exV kf y) : Nat) : Int) + min (lez kf + ((exE kf y : Nat) : Int)) 0))])), (nd, .inl (cB, 4200, .inl db1))] H := hP
    have hD : va_D A [(mo, .inr (4, [.ref nb, .ref un, .ref ov, .ref xx, .ref dc, .int (iI (0)), .int (iI (0)), .long (lN (sgz kf y)), .int (iI (lez kf + ((exE kf y : Nat) : Int))), .int (iI (zk2))])), (nb, .inr (3, [.ref nd, .int (iI (((dl (rz (exV kf y)) : Nat) : Int))), .int (iI (if y = 0 then 0 else ((dl (exV kf y) : Nat) : Int) + min (lez kf + ((exE kf y : Nat) : Int)) 0))])), (nd, .inl (cB, 4200, .inl db1))] := hD
    refine ed_pc (pc' := 33) rfl ?_
    refine lv_aload_n hx hb d_Mo_real_33 rfl (lv_at hl 0 rfl) ?_
    refine va_get (D := D) (ci := 4) (v := .ref nb) (C := R_Mo) (T := T_Mo) (N := 10) hx hb hts (fun w h => List.mem_cons_of_mem _ (in_Mo w h)) hown hK hP 0 rfl rfl 0 (by decide) (hts _ (List.mem_cons_of_mem _ tw_390)) (fun _ h9 => h9) rfl d_Mo_real_34 ?_
    refine va_get (D := D) (ci := 3) (v := .int (iI (((dl (rz (exV kf y)) : Nat) : Int)))) (C := R_Ro) (T := T_Ro) (N := 3) hx hb hts (fun w h => List.mem_cons_of_mem _ (in_Ro w h)) hown hK hP 1 rfl rfl 1 (by decide) (hts _ (List.mem_cons_of_mem _ tw_362)) (fun _ h9 => h9) rfl d_Mo_real_37 ?_
    have hP := hP.sub (ws' := [(mo, .inr (4, [.ref nb, .ref un, .ref ov, .ref xx, .ref dc, .int (iI (0)), .int (iI (0)), .long (lN (sgz kf y)), .int (iI (lez kf + ((exE kf y : Nat) : Int))), .int (iI (zk2))])), (nb, .inr (3, [.ref nd, .int (iI (((dl (rz (exV kf y)) : Nat) : Int))), .int (iI (if y = 0 then 0 else ((dl (exV kf y) : Nat) : Int) + min (lez kf + ((exE kf y : Nat) : Int)) 0))])), (nd, .inl (cB, 4200, .inl db1))]) [0, 1, 2] rfl
    have hD := hD.sub (ws' := [(mo, .inr (4, [.ref nb, .ref un, .ref ov, .ref xx, .ref dc, .int (iI (0)), .int (iI (0)), .long (lN (sgz kf y)), .int (iI (lez kf + ((exE kf y : Nat) : Int))), .int (iI (zk2))])), (nb, .inr (3, [.ref nd, .int (iI (((dl (rz (exV kf y)) : Nat) : Int))), .int (iI (if y = 0 then 0 else ((dl (exV kf y) : Nat) : Int) + min (lez kf + ((exE kf y : Nat) : Int)) 0))])), (nd, .inl (cB, 4200, .inl db1))]) [0, 1, 2] (by decide) rfl
    exact W.iret (v := (iI (((dl (rz (exV kf y)) : Nat) : Int)))) hx hb hr (fun t9 ht9 hW9 => ⟨⟨(iI (((dl (rz (exV kf y)) : Nat) : Int))), [(mo, .inr (4, [.ref nb, .ref un, .ref ov, .ref xx, .ref dc, .int (iI (0)), .int (iI (0)), .long (lN (sgz kf y)), .int (iI (lez kf + ((exE kf y : Nat) : Int))), .int (iI (zk2))])), (nb, .inr (3, [.ref nd, .int (iI (((dl (rz (exV kf y)) : Nat) : Int))), .int (iI (if y = 0 then 0 else ((dl (exV kf y) : Nat) : Int) + min (lez kf + ((exE kf y : Nat) : Int)) 0))])), (nd, .inl (cB, 4200, .inl db1))], rfl, ⟨rfl, db1, _, _, _, ⟨by omega, hdb1⟩, rfl⟩, by rw [ht9]; exact hP, hD⟩, hS.F ht9⟩) hS.2.2 d_Mo_real_40
  · exact absurd h_1 (by omega)
set_option maxHeartbeats 4000000 in
set_option maxRecDepth 100000 in
theorem c_Mo_real_no (l : Launch) (D : va_G) (cB cI cJ : ClassId) (t5 : Nat) (ad : Nat → Nat) (mo nb nd un ov xx dc : Nat) (d : Nat → Int32) (zn pt zl th pw zk zz : Int) (ma : Int64) (kf b : Nat) (hzz : iR zz) (hkf9 : kf = if zz = 0 then 0 else 1) (hb64 : b < 2 ^ 64) (hfin : ifz kf ≤ b % (mkz kf + 1)) : c_I l m_Mo_real (Cond.code m_Mo_real b_Mo_real 4 (some .int) :: gw) (rm_ 4 139) (eX t5 ad) D ecl (tyS cB cI cJ) [.ref mo, .long (lN b), .int (iI (zz))] [(mo, .inr (4, [.ref nb, .ref un, .ref ov, .ref xx, .ref dc, .int (iI (zl)), .int (iI (th)), .long (ma), .int (iI (pw)), .int (iI (zk))])), (nb, .inr (3, [.ref nd, .int (iI (zn)), .int (iI (pt))])), (nd, .inl (cB, 4200, .inl d))] (fun r u => r = iI 0 ∧ u = [(mo, .inr (4, [.ref nb, .ref un, .ref ov, .ref xx, .ref dc, .int (iI (zl)), .int (iI (1)), .long (ma), .int (iI (pw)), .int (iI (zk))])), (nb, .inr (3, [.ref nd, .int (iI (zn)), .int (iI (pt))])), (nd, .inl (cB, 4200, .inl d))]) 0 0 := by
  intro sz0
  refine Met.ofW (cc := b_Mo_real) (maxL := 4) (ret := (some .int)) (by decide) rfl ?_
  intro p e s m args below meth c s₁ B hml hv
  obtain ⟨rfl, hsz, hP, hK, hD0, hE⟩ := hv
  have hx := B.exec
  have hb := B.bytes
  have hr := B.returns
  have hts := atoms_spec (ws := Cond.code m_Mo_real b_Mo_real 4 (some .int) :: gw) B.pre
  have hown : s.vm.findClass R_Mo = some m.cls := findClass_of_methodNamed B.named
  have hlocks := B.notSynchronized
  subst hsz
  have hD := hD0.self (sz := s.heap.size)
  generalize hAe : va_A [(mo, .inr (4, [.ref nb, .ref un, .ref ov, .ref xx, .ref dc, .int (iI (zl)), .int (iI (th)), .long (ma), .int (iI (pw)), .int (iI (zk))])), (nb, .inr (3, [.ref nd, .int (iI (zn)), .int (iI (pt))])), (nd, .inl (cB, 4200, .inl d))] s.heap.size = A at hD hE ⊢
  have hA : ∀ q : Nat, s.heap.size ≤ q → A q := fun q h => by rw [← hAe]; exact Or.inr h
  have hS : va_S A s.heap s.heap [] := va_S.rf
  have hl := lv_entry ([.ref mo, .long (lN b), .int (iI (zz))]) (n := 4) (Nat.le_of_ble_eq_true rfl)
  rw [lg_entry_eq]
  generalize (lg_sl ([.ref mo, .long (lN b), .int (iI (zz))]) ++ List.replicate (4 - (lg_sl ([.ref mo, .long (lN b), .int (iI (zz))])).length) Slot.unset).toArray = ls at hl ⊢
  have hl : lv_has ls 4 [(0, .ref mo), (1, .long (lN b)), (3, .int (iI (zz)))] := hl
  refine lv_aload_n hx hb d_Mo_real_0 rfl (lv_at hl 0 rfl) ?_
  refine lv_lload_n hx hb d_Mo_real_1 rfl (lv_at hl 1 rfl) ?_
  refine lv_iload_n hx hb d_Mo_real_2 rfl (lv_at hl 2 rfl) ?_
  refine c_fi (wc := [(mo, .inr (4, [.ref nb, .ref un, .ref ov, .ref xx, .ref dc, .int (iI (zl)), .int (iI (th)), .long (ma), .int (iI (pw)), .int (iI (zk))]))]) (wr := [(nb, .inr (3, [.ref nd, .int (iI (zn)), .int (iI (pt))])), (nd, .inl (cB, 4200, .inl d))]) (va_runV (C := "ExactDigitsModel") (As := [.long (lN b), .int (iI (zz))]) (rest := []) ⟨hx, hb, hml, hown, hts⟩ (c_Mo_isNumber_no l D cB cI cJ t5 ad mo nb un ov xx dc zl th pw zk zz ma kf b hzz hkf9 hb64 hfin s.heap.size) (cwV 2 hts (gV tw_449 tw_451 ts_15 tw_3 tw_452) rfl rfl rfl (by decide +kernel) ⟨Nat.le_of_ble_eq_true rfl, Nat.le_of_ble_eq_true rfl⟩) ⟨c_blind (eX_X t5 ad), va_recv (ci := 4) (q0 := 0) hK hP rfl rfl, fun U hU hW => c_pre (wc := [(mo, .inr (4, [.ref nb, .ref un, .ref ov, .ref xx, .ref dc, .int (iI (zl)), .int (iI (th)), .long (ma), .int (iI (pw)), .int (iI (zk))]))]) (eX_X t5 ad) hE hK hP hD hS hA [0] rfl (by decide) U hU hW⟩ rfl rfl hl.1 rfl (lv_room (Nat.le_of_ble_eq_true rfl)) d_Mo_real_3 ⟨Nat.le_of_ble_eq_true rfl, Nat.le_of_ble_eq_true rfl⟩) hP hD hS hA [0] [1, 2] rfl rfl (by decide) (by decide) (fun r u H locs hp hP hD hS => ?_)
  obtain ⟨rfl, rfl⟩ := hp
  have hP : va_P D ecl [(nb, .inr (3, [.ref nd, .int (iI (zn)), .int (iI (pt))])), (nd, .inl (cB, 4200, .inl d)), (mo, .inr (4, [.ref nb, .ref un, .ref ov, .ref xx, .ref dc, .int (iI (zl)), .int (iI (1)), .long (ma), .int (iI (pw)), .int (iI (zk))]))] H := hP
  have hD : va_D A [(nb, .inr (3, [.ref nd, .int (iI (zn)), .int (iI (pt))])), (nd, .inl (cB, 4200, .inl d)), (mo, .inr (4, [.ref nb, .ref un, .ref ov, .ref xx, .ref dc, .int (iI (zl)), .int (iI (1)), .long (ma), .int (iI (pw)), .int (iI (zk))]))] := hD
  refine ed_if_ne (tgt := 11) hx hb d_Mo_real_6 rfl (by omega) (fun h_1 => ?_) (fun h_1 => ?_)
  · exact absurd h_1 (by omega)
  · skip
    refine ed_pc (pc' := 9) rfl ?_
    refine lv_iconst (v := iI 0) hx hb d_Mo_real_9 rfl ?_
    have hP := hP.sub (ws' := [(mo, .inr (4, [.ref nb, .ref un, .ref ov, .ref xx, .ref dc, .int (iI (zl)), .int (iI (1)), .long (ma), .int (iI (pw)), .int (iI (zk))])), (nb, .inr (3, [.ref nd, .int (iI (zn)), .int (iI (pt))])), (nd, .inl (cB, 4200, .inl d))]) [2, 0, 1] rfl
    have hD := hD.sub (ws' := [(mo, .inr (4, [.ref nb, .ref un, .ref ov, .ref xx, .ref dc, .int (iI (zl)), .int (iI (1)), .long (ma), .int (iI (pw)), .int (iI (zk))])), (nb, .inr (3, [.ref nd, .int (iI (zn)), .int (iI (pt))])), (nd, .inl (cB, 4200, .inl d))]) [2, 0, 1] (by decide) rfl
    exact W.iret (v := (iI (0))) hx hb hr (fun t9 ht9 hW9 => ⟨⟨(iI (0)), [(mo, .inr (4, [.ref nb, .ref un, .ref ov, .ref xx, .ref dc, .int (iI (zl)), .int (iI (1)), .long (ma), .int (iI (pw)), .int (iI (zk))])), (nb, .inr (3, [.ref nd, .int (iI (zn)), .int (iI (pt))])), (nd, .inl (cB, 4200, .inl d))], rfl, ⟨rfl, rfl⟩, by rw [ht9]; exact hP, hD⟩, hS.F ht9⟩) hS.2.2 d_Mo_real_10
