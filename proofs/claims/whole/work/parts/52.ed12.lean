set_option maxHeartbeats 4000000 in
set_option maxRecDepth 100000 in
theorem c_Ed_giveExact (l : Launch) (D : va_G) (cB cI cJ : ClassId) (t5 : Nat) (ad : Nat → Nat) (x dg q pa : Nat) (g f : Nat → Int32) (zs zc pt zl : Int) (kf y : Nat) (hkf : kf < 2) (hy : y < ifz kf) : c_V l m_Ed_giveExact (Cond.code m_Ed_giveExact b_Ed_giveExact 4 none :: gw) (rm_ 4 93) (eX t5 ad) D ecl (tyS cB cI cJ) [.ref x, .long (jI ((y : Int))), .ref (ad kf)] [(x, .inr (1, [.ref dg, .int (iI (zc)), .int (iI (pt)), .int (iI (zl)), .ref q])), (dg, .inl (cB, 1200, .inl g)), (q, .inr (0, [.ref pa, .int (iI (zs))])), (pa, .inl (cI, 306, .inl f))] (fun u => ∃ (g' f' : Nat → Int32) (zs' : Int), nm_ok g' (rz (exV kf y)) ∧ u = [(x, .inr (1, [.ref dg, .int (iI (((dl (rz (exV kf y)) : Nat) : Int))), .int (iI (if y = 0 then 0 else ((dl (exV kf y) : Nat) : Int) + min (lez kf + ((exE kf y : Nat) : Int)) 0)), .int (iI (0)), .ref q])), (dg, .inl (cB, 1200, .inl g')), (q, .inr (0, [.ref pa, .int (iI (zs'))])), (pa, .inl (cI, 306, .inl f'))]) 0 0 := by
  intro sz0
  refine Met.ofW (cc := b_Ed_giveExact) (maxL := 4) (ret := none) (by decide) rfl ?_
  intro p e s m args below meth c s₁ B hml hv
  obtain ⟨rfl, hsz, hP, hK, hD0, hE⟩ := hv
  have hx := B.exec
  have hb := B.bytes
  have hr := B.returns
  have hts := atoms_spec (ws := Cond.code m_Ed_giveExact b_Ed_giveExact 4 none :: gw) B.pre
  have hown : s.vm.findClass R_Ed = some m.cls := findClass_of_methodNamed B.named
  have hlocks := B.notSynchronized
  subst hsz
  have hD := hD0.self (sz := s.heap.size)
  generalize hAe : va_A [(x, .inr (1, [.ref dg, .int (iI (zc)), .int (iI (pt)), .int (iI (zl)), .ref q])), (dg, .inl (cB, 1200, .inl g)), (q, .inr (0, [.ref pa, .int (iI (zs))])), (pa, .inl (cI, 306, .inl f))] s.heap.size = A at hD hE ⊢
  have hA : ∀ q : Nat, s.heap.size ≤ q → A q := fun q h => by rw [← hAe]; exact Or.inr h
  have hS : va_S A s.heap s.heap [] := va_S.rf
  have hl := lv_entry ([.ref x, .long (jI ((y : Int))), .ref (ad kf)]) (n := 4) (Nat.le_of_ble_eq_true rfl)
  rw [lg_entry_eq]
  generalize (lg_sl ([.ref x, .long (jI ((y : Int))), .ref (ad kf)]) ++ List.replicate (4 - (lg_sl ([.ref x, .long (jI ((y : Int))), .ref (ad kf)])).length) Slot.unset).toArray = ls at hl ⊢
  have hl : lv_has ls 4 [(0, .ref x), (1, .long (jI ((y : Int)))), (3, .ref (ad kf))] := hl
  have hfz := fz_all kf hkf
  have hE5 := hE.2.2.2.2.1
  have he := ex_e hkf hy
  have hsm := (ex_m kf y).1
  have hs54 : 2 ^ (fbz kf + 1) ≤ 2 ^ 53 := Nat.pow_le_pow_right (by decide) (by omega)
  have hxe : max (((y / 2 ^ fbz kf : Nat) : Int) - 1) 0 = ((exE kf y : Nat) : Int) := by unfold exE; omega
  have hVR := ex_room hkf hy
  have hVd := ex_dl hkf hy
  have hV0 : exV kf y = 0 ↔ y = 0 := by unfold exV; rw [Nat.mul_eq_zero]; exact ⟨fun z => z.elim (fun z => ex_0.mp z) (fun z => absurd z (Nat.ne_of_gt (tw2_pos _))), fun z => Or.inl (ex_0.mpr z)⟩
  refine lv_aload_n hx hb d_Ed_giveExact_0 rfl (lv_at hl 0 rfl) ?_
  refine va_get (D := D) (ci := 1) (v := .ref q) (C := R_Ed) (T := T_Ed) (N := 5) hx hb hts (fun w h => List.mem_cons_of_mem _ (in_Ed w h)) hown hK hP 0 rfl rfl 4 (by decide) (hts _ (List.mem_cons_of_mem _ tw_44)) (fun _ h9 => h9) rfl d_Ed_giveExact_1 ?_
  refine lv_aload_n hx hb d_Ed_giveExact_4 rfl (lv_at hl 2 rfl) ?_
  refine lv_lload_n hx hb d_Ed_giveExact_5 rfl (lv_at hl 1 rfl) ?_
  refine c_fl (wc := []) (wr := [(x, .inr (1, [.ref dg, .int (iI (zc)), .int (iI (pt)), .int (iI (zl)), .ref q])), (dg, .inl (cB, 1200, .inl g)), (q, .inr (0, [.ref pa, .int (iI (zs))])), (pa, .inl (cI, 306, .inl f))]) (va_runV (C := "ExactDigits$Format") (As := [.long (jI ((y : Int)))]) (rest := [.ref q]) ⟨hx, hb, hml, hown, hts⟩ (c_Fo_significand l D cB cI cJ t5 ad kf y hkf (by omega) s.heap.size) (cwV 1 hts (gV tw_236 tw_237 tw_238 tw_10 tw_239) rfl rfl rfl (by decide +kernel) ⟨Nat.le_of_ble_eq_true rfl, Nat.le_of_ble_eq_true rfl⟩) ⟨c_blind (eX_X t5 ad), va_Orecv (hE5 kf hkf) hS, fun U hU hW => c_pre (wc := []) (eX_X t5 ad) hE hK hP hD hS hA [] rfl (by decide) U hU hW⟩ rfl rfl hl.1 rfl (lv_room (Nat.le_of_ble_eq_true rfl)) d_Ed_giveExact_6 ⟨Nat.le_of_ble_eq_true rfl, Nat.le_of_ble_eq_true rfl⟩) hP hD hS hA [] [0, 1, 2, 3] rfl rfl (by decide) (by decide) (fun r u H locs hp hP hD hS => ?_)
  obtain ⟨rfl, rfl⟩ := hp
  have hP : va_P D ecl [(x, .inr (1, [.ref dg, .int (iI (zc)), .int (iI (pt)), .int (iI (zl)), .ref q])), (dg, .inl (cB, 1200, .inl g)), (q, .inr (0, [.ref pa, .int (iI (zs))])), (pa, .inl (cI, 306, .inl f))] H := hP
  have hD : va_D A [(x, .inr (1, [.ref dg, .int (iI (zc)), .int (iI (pt)), .int (iI (zl)), .ref q])), (dg, .inl (cB, 1200, .inl g)), (q, .inr (0, [.ref pa, .int (iI (zs))])), (pa, .inl (cI, 306, .inl f))] := hD
  refine ed_tl (y := (lN (sgz kf y))) (jI_nat _) ?_
  refine c_fv (wc := [(q, .inr (0, [.ref pa, .int (iI (zs))])), (pa, .inl (cI, 306, .inl f))]) (wr := [(x, .inr (1, [.ref dg, .int (iI (zc)), .int (iI (pt)), .int (iI (zl)), .ref q])), (dg, .inl (cB, 1200, .inl g))]) (va_runV (C := "ExactDigits$Natural") (As := [.long (lN (sgz kf y))]) (rest := []) ⟨hx, hb, hml, hown, hts⟩ (c_Na_setUnsigned l D cB cI cJ t5 ad q pa f zs (sgz kf y) (by omega) H.size) (cwV 1 hts (gV tw_60 tw_61 tw_62 tw_2 tw_63) rfl rfl rfl (by decide +kernel) ⟨Nat.le_of_ble_eq_true rfl, Nat.le_of_ble_eq_true rfl⟩) ⟨c_blind (eX_X t5 ad), va_recv (ci := 0) (q0 := 2) hK hP rfl rfl, fun U hU hW => c_pre (wc := [(q, .inr (0, [.ref pa, .int (iI (zs))])), (pa, .inl (cI, 306, .inl f))]) (eX_X t5 ad) hE hK hP hD hS hA [2, 3] rfl (by decide) U hU hW⟩ rfl rfl hl.1 rfl (lv_room (Nat.le_of_ble_eq_true rfl)) d_Ed_giveExact_9 ⟨Nat.le_of_ble_eq_true rfl, Nat.le_of_ble_eq_true rfl⟩) hP hD hS hA [2, 3] [0, 1] rfl rfl (by decide) (by decide) (fun u H locs hp hP hD hS => ?_)
  obtain ⟨f2, sz2, rfl, hok⟩ := hp
  have hP : va_P D ecl [(x, .inr (1, [.ref dg, .int (iI (zc)), .int (iI (pt)), .int (iI (zl)), .ref q])), (dg, .inl (cB, 1200, .inl g)), (q, .inr (0, [.ref pa, .int (iI ((sz2 : Int)))])), (pa, .inl (cI, 306, .inl f2))] H := hP
  have hD : va_D A [(x, .inr (1, [.ref dg, .int (iI (zc)), .int (iI (pt)), .int (iI (zl)), .ref q])), (dg, .inl (cB, 1200, .inl g)), (q, .inr (0, [.ref pa, .int (iI ((sz2 : Int)))])), (pa, .inl (cI, 306, .inl f2))] := hD
  refine lv_aload_n hx hb d_Ed_giveExact_12 rfl (lv_at hl 0 rfl) ?_
  refine ed_pc (pc' := 13) rfl ?_
  refine lv_aload_n hx hb d_Ed_giveExact_13 rfl (lv_at hl 0 rfl) ?_
  refine va_get (D := D) (ci := 1) (v := .ref q) (C := R_Ed) (T := T_Ed) (N := 5) hx hb hts (fun w h => List.mem_cons_of_mem _ (in_Ed w h)) hown hK hP 0 rfl rfl 4 (by decide) (hts _ (List.mem_cons_of_mem _ tw_44)) (fun _ h9 => h9) rfl d_Ed_giveExact_14 ?_
  refine lv_aload_n hx hb d_Ed_giveExact_17 rfl (lv_at hl 2 rfl) ?_
  refine lv_lload_n hx hb d_Ed_giveExact_18 rfl (lv_at hl 1 rfl) ?_
  refine c_fi (wc := []) (wr := [(x, .inr (1, [.ref dg, .int (iI (zc)), .int (iI (pt)), .int (iI (zl)), .ref q])), (dg, .inl (cB, 1200, .inl g)), (q, .inr (0, [.ref pa, .int (iI ((sz2 : Int)))])), (pa, .inl (cI, 306, .inl f2))]) (va_runV (C := "ExactDigits$Format") (As := [.long (jI ((y : Int)))]) (rest := [.ref q, .ref x]) ⟨hx, hb, hml, hown, hts⟩ (c_Fo_exponent l D cB cI cJ t5 ad kf y hkf hy H.size) (cwV 1 hts (gV tw_240 tw_241 tw_242 tw_10 tw_243) rfl rfl rfl (by decide +kernel) ⟨Nat.le_of_ble_eq_true rfl, Nat.le_of_ble_eq_true rfl⟩) ⟨c_blind (eX_X t5 ad), va_Orecv (hE5 kf hkf) hS, fun U hU hW => c_pre (wc := []) (eX_X t5 ad) hE hK hP hD hS hA [] rfl (by decide) U hU hW⟩ rfl rfl hl.1 rfl (lv_room (Nat.le_of_ble_eq_true rfl)) d_Ed_giveExact_19 ⟨Nat.le_of_ble_eq_true rfl, Nat.le_of_ble_eq_true rfl⟩) hP hD hS hA [] [0, 1, 2, 3] rfl rfl (by decide) (by decide) (fun r u H locs hp hP hD hS => ?_)
  obtain ⟨rfl, rfl⟩ := hp
  have hP : va_P D ecl [(x, .inr (1, [.ref dg, .int (iI (zc)), .int (iI (pt)), .int (iI (zl)), .ref q])), (dg, .inl (cB, 1200, .inl g)), (q, .inr (0, [.ref pa, .int (iI ((sz2 : Int)))])), (pa, .inl (cI, 306, .inl f2))] H := hP
  have hD : va_D A [(x, .inr (1, [.ref dg, .int (iI (zc)), .int (iI (pt)), .int (iI (zl)), .ref q])), (dg, .inl (cB, 1200, .inl g)), (q, .inr (0, [.ref pa, .int (iI ((sz2 : Int)))])), (pa, .inl (cI, 306, .inl f2))] := hD
  refine ed_tz (y := lez kf + ((exE kf y : Nat) : Int)) (by rw [hxe]) ?_
  refine c_fi (wc := [(q, .inr (0, [.ref pa, .int (iI ((sz2 : Int)))])), (pa, .inl (cI, 306, .inl f2))]) (wr := [(x, .inr (1, [.ref dg, .int (iI (zc)), .int (iI (pt)), .int (iI (zl)), .ref q])), (dg, .inl (cB, 1200, .inl g))]) (va_runV (C := "ExactDigits$Natural") (As := [.int (iI (lez kf + ((exE kf y : Nat) : Int)))]) (rest := [.ref x]) ⟨hx, hb, hml, hown, hts⟩ (c_Na_timesTwoTo l D cB cI cJ t5 ad q pa f2 sz2 (sgz kf y) (lez kf + ((exE kf y : Nat) : Int)) (by omega) hok hVR H.size) (cwV 1 hts (gV tw_118 tw_119 tw_120 tw_2 tw_121) rfl rfl rfl (by decide +kernel) ⟨Nat.le_of_ble_eq_true rfl, Nat.le_of_ble_eq_true rfl⟩) ⟨c_blind (eX_X t5 ad), va_recv (ci := 0) (q0 := 2) hK hP rfl rfl, fun U hU hW => c_pre (wc := [(q, .inr (0, [.ref pa, .int (iI ((sz2 : Int)))])), (pa, .inl (cI, 306, .inl f2))]) (eX_X t5 ad) hE hK hP hD hS hA [2, 3] rfl (by decide) U hU hW⟩ rfl rfl hl.1 rfl (lv_room (Nat.le_of_ble_eq_true rfl)) d_Ed_giveExact_22 ⟨Nat.le_of_ble_eq_true rfl, Nat.le_of_ble_eq_true rfl⟩) hP hD hS hA [2, 3] [0, 1] rfl rfl (by decide) (by decide) (fun r u H locs hp hP hD hS => ?_)
  obtain ⟨rfl, f3, s3, rfl, hok3⟩ := hp
  have hP : va_P D ecl [(x, .inr (1, [.ref dg, .int (iI (zc)), .int (iI (pt)), .int (iI (zl)), .ref q])), (dg, .inl (cB, 1200, .inl g)), (q, .inr (0, [.ref pa, .int (iI ((s3 : Int)))])), (pa, .inl (cI, 306, .inl f3))] H := hP
  have hD : va_D A [(x, .inr (1, [.ref dg, .int (iI (zc)), .int (iI (pt)), .int (iI (zl)), .ref q])), (dg, .inl (cB, 1200, .inl g)), (q, .inr (0, [.ref pa, .int (iI ((s3 : Int)))])), (pa, .inl (cI, 306, .inl f3))] := hD
  refine c_fv (wc := [(x, .inr (1, [.ref dg, .int (iI (zc)), .int (iI (pt)), .int (iI (zl)), .ref q])), (dg, .inl (cB, 1200, .inl g)), (q, .inr (0, [.ref pa, .int (iI ((s3 : Int)))])), (pa, .inl (cI, 306, .inl f3))]) (wr := []) (va_runV (C := "ExactDigits") (As := [.int (iI (min (lez kf + ((exE kf y : Nat) : Int)) 0))]) (rest := []) ⟨hx, hb, hml, hown, hts⟩ (c_Ed_giveScratch l D cB cI cJ t5 ad x dg q pa g f3 s3 (exV kf y) zc pt zl (min (lez kf + ((exE kf y : Nat) : Int)) 0) (by omega) hok3 H.size) (cwV 1 hts (gV tw_66 tw_68 ts_0 tw_1 tw_69) rfl rfl rfl (by decide +kernel) ⟨Nat.le_of_ble_eq_true rfl, Nat.le_of_ble_eq_true rfl⟩) ⟨c_blind (eX_X t5 ad), va_recv (ci := 1) (q0 := 0) hK hP rfl rfl, fun U hU hW => c_pre (wc := [(x, .inr (1, [.ref dg, .int (iI (zc)), .int (iI (pt)), .int (iI (zl)), .ref q])), (dg, .inl (cB, 1200, .inl g)), (q, .inr (0, [.ref pa, .int (iI ((s3 : Int)))])), (pa, .inl (cI, 306, .inl f3))]) (eX_X t5 ad) hE hK hP hD hS hA [0, 1, 2, 3] rfl (by decide) U hU hW⟩ rfl rfl hl.1 rfl (lv_room (Nat.le_of_ble_eq_true rfl)) d_Ed_giveExact_25 ⟨Nat.le_of_ble_eq_true rfl, Nat.le_of_ble_eq_true rfl⟩) hP hD hS hA [0, 1, 2, 3] [] rfl rfl (by decide) (by decide) (fun u H locs hp hP hD hS => ?_)
  obtain ⟨g6, hnm6, rfl⟩ := hp
  have hP : va_P D ecl [(x, .inr (1, [.ref dg, .int (iI (((dl (gvD (exV kf y)) : Nat) : Int))), .int (iI (if exV kf y = 0 then 0 else ((dl (exV kf y) : Nat) : Int) + (min (lez kf + ((exE kf y : Nat) : Int)) 0))), .int (iI (hdb (exV kf y) (((dl (exV kf y) : Nat) : Int) - 1200))), .ref q])), (dg, .inl (cB, 1200, .inl g6)), (q, .inr (0, [.ref pa, .int (iI ((s3 : Int)))])), (pa, .inl (cI, 306, .inl f3))] H := hP
  have hD : va_D A [(x, .inr (1, [.ref dg, .int (iI (((dl (gvD (exV kf y)) : Nat) : Int))), .int (iI (if exV kf y = 0 then 0 else ((dl (exV kf y) : Nat) : Int) + (min (lez kf + ((exE kf y : Nat) : Int)) 0))), .int (iI (hdb (exV kf y) (((dl (exV kf y) : Nat) : Int) - 1200))), .ref q])), (dg, .inl (cB, 1200, .inl g6)), (q, .inr (0, [.ref pa, .int (iI ((s3 : Int)))])), (pa, .inl (cI, 306, .inl f3))] := hD
  rw [gv_small hVd] at hnm6
  exact W.vret hx hb hr (fun t9 ht9 hW9 => ⟨⟨[(x, .inr (1, [.ref dg, .int (iI (((dl (gvD (exV kf y)) : Nat) : Int))), .int (iI (if exV kf y = 0 then 0 else ((dl (exV kf y) : Nat) : Int) + (min (lez kf + ((exE kf y : Nat) : Int)) 0))), .int (iI (hdb (exV kf y) (((dl (exV kf y) : Nat) : Int) - 1200))), .ref q])), (dg, .inl (cB, 1200, .inl g6)), (q, .inr (0, [.ref pa, .int (iI ((s3 : Int)))])), (pa, .inl (cI, 306, .inl f3))], rfl, ⟨g6, f3, (s3 : Int), hnm6, by rw [gv_small hVd, hdb_small hVd]; simp only [hV0]⟩, by rw [ht9]; exact hP, hD⟩, hS.F ht9⟩) hS.2.2 d_Ed_giveExact_28
set_option maxHeartbeats 4000000 in
set_option maxRecDepth 100000 in
theorem c_Ed_real (l : Launch) (D : va_G) (cB cI cJ : ClassId) (t5 : Nat) (ad : Nat → Nat) (x dg q pa : Nat) (g f : Nat → Int32) (zs zc pt zl zz : Int) (kf b : Nat) (hzz : iR zz) (hkf9 : kf = if zz = 0 then 0 else 1) (hb64 : b < 2 ^ 64) (y : Nat) (hyb : y = b % (mkz kf + 1)) (hy : y < ifz kf) : c_I l m_Ed_real (Cond.code m_Ed_real b_Ed_real 5 (some .int) :: gw) (rm_ 7 116) (eX t5 ad) D ecl (tyS cB cI cJ) [.ref x, .long (lN b), .int (iI (zz))] [(x, .inr (1, [.ref dg, .int (iI (zc)), .int (iI (pt)), .int (iI (zl)), .ref q])), (dg, .inl (cB, 1200, .inl g)), (q, .inr (0, [.ref pa, .int (iI (zs))])), (pa, .inl (cI, 306, .inl f))] (fun r u => r = iI ((dl (rz (exV kf y)) : Nat) : Int) ∧ ∃ (g' f' : Nat → Int32) (zs' : Int), nm_ok g' (rz (exV kf y)) ∧ u = [(x, .inr (1, [.ref dg, .int (iI (((dl (rz (exV kf y)) : Nat) : Int))), .int (iI (if y = 0 then 0 else ((dl (exV kf y) : Nat) : Int) + min (lez kf + ((exE kf y : Nat) : Int)) 0)), .int (iI (0)), .ref q])), (dg, .inl (cB, 1200, .inl g')), (q, .inr (0, [.ref pa, .int (iI (zs'))])), (pa, .inl (cI, 306, .inl f'))]) 0 0 := by
  intro sz0
  refine Met.ofW (cc := b_Ed_real) (maxL := 5) (ret := (some .int)) (by decide) rfl ?_
  intro p e s m args below meth c s₁ B hml hv
  obtain ⟨rfl, hsz, hP, hK, hD0, hE⟩ := hv
  have hx := B.exec
  have hb := B.bytes
  have hr := B.returns
  have hts := atoms_spec (ws := Cond.code m_Ed_real b_Ed_real 5 (some .int) :: gw) B.pre
  have hown : s.vm.findClass R_Ed = some m.cls := findClass_of_methodNamed B.named
  have hlocks := B.notSynchronized
  subst hsz
  have hD := hD0.self (sz := s.heap.size)
  generalize hAe : va_A [(x, .inr (1, [.ref dg, .int (iI (zc)), .int (iI (pt)), .int (iI (zl)), .ref q])), (dg, .inl (cB, 1200, .inl g)), (q, .inr (0, [.ref pa, .int (iI (zs))])), (pa, .inl (cI, 306, .inl f))] s.heap.size = A at hD hE ⊢
  have hA : ∀ q : Nat, s.heap.size ≤ q → A q := fun q h => by rw [← hAe]; exact Or.inr h
  have hS : va_S A s.heap s.heap [] := va_S.rf
  have hl := lv_entry ([.ref x, .long (lN b), .int (iI (zz))]) (n := 5) (Nat.le_of_ble_eq_true rfl)
  rw [lg_entry_eq]
  generalize (lg_sl ([.ref x, .long (lN b), .int (iI (zz))]) ++ List.replicate (5 - (lg_sl ([.ref x, .long (lN b), .int (iI (zz))])).length) Slot.unset).toArray = ls at hl ⊢
  have hl : lv_has ls 5 [(0, .ref x), (1, .long (lN b)), (3, .int (iI (zz)))] := hl
  have hkf : kf < 2 := by rw [hkf9]; split <;> omega
  refine lv_iload_n hx hb d_Ed_real_0 rfl (lv_at hl 2 rfl) ?_
  refine c_fr (ra := ad kf) (va_runS (As := [.int (iI (zz))]) (rest := []) ⟨hx, hb, hml, hown, hts⟩ (c_Ed_formatOf l D cB cI cJ t5 ad zz kf hzz hkf9 s.heap.size) (va_cwS 1 hts (gS tw_103 tw_104 tw_1 tw_105) rfl rfl rfl (by decide +kernel) ⟨Nat.le_of_ble_eq_true rfl, Nat.le_of_ble_eq_true rfl⟩) ⟨c_blind (eX_X t5 ad), fun U hU hW => c_pre (wc := []) (eX_X t5 ad) hE hK hP hD hS hA [] rfl (by decide) U hU hW⟩ rfl rfl hl.1 rfl (lv_room (Nat.le_of_ble_eq_true rfl)) d_Ed_real_1 ⟨Nat.le_of_ble_eq_true rfl, Nat.le_of_ble_eq_true rfl⟩) hP hD hS hA [0, 1, 2, 3] rfl (by decide) (fun H locs hP hD hS => ?_)
  have hP : va_P D ecl [(x, .inr (1, [.ref dg, .int (iI (zc)), .int (iI (pt)), .int (iI (zl)), .ref q])), (dg, .inl (cB, 1200, .inl g)), (q, .inr (0, [.ref pa, .int (iI (zs))])), (pa, .inl (cI, 306, .inl f))] H := hP
  have hD : va_D A [(x, .inr (1, [.ref dg, .int (iI (zc)), .int (iI (pt)), .int (iI (zl)), .ref q])), (dg, .inl (cB, 1200, .inl g)), (q, .inr (0, [.ref pa, .int (iI (zs))])), (pa, .inl (cI, 306, .inl f))] := hD
  refine lv_astore hx hb d_Ed_real_4 hl (by decide) rfl (fun ls hl => ?_)
  have hl : lv_has ls 5 [(4, .ref (ad kf)), (0, .ref x), (1, .long (lN b)), (3, .int (iI (zz)))] := hl
  refine lv_aload_n hx hb d_Ed_real_6 rfl (lv_at hl 1 rfl) ?_
  refine lv_lload_n hx hb d_Ed_real_7 rfl (lv_at hl 2 rfl) ?_
  refine lv_aload hx hb d_Ed_real_8 (lv_at hl 0 rfl) ?_
  refine c_fl (wc := []) (wr := [(x, .inr (1, [.ref dg, .int (iI (zc)), .int (iI (pt)), .int (iI (zl)), .ref q])), (dg, .inl (cB, 1200, .inl g)), (q, .inr (0, [.ref pa, .int (iI (zs))])), (pa, .inl (cI, 306, .inl f))]) (va_runS (As := [.long (lN b), .ref (ad kf)]) (rest := [.ref x]) ⟨hx, hb, hml, hown, hts⟩ (c_Ed_finiteSize l D cB cI cJ t5 ad kf b hkf hb64 (by rw [← hyb]; exact hy) H.size) (va_cwS 2 hts (gS tw_163 tw_164 tw_1 tw_165) rfl rfl rfl (by decide +kernel) ⟨Nat.le_of_ble_eq_true rfl, Nat.le_of_ble_eq_true rfl⟩) ⟨c_blind (eX_X t5 ad), fun U hU hW => c_pre (wc := []) (eX_X t5 ad) hE hK hP hD hS hA [] rfl (by decide) U hU hW⟩ rfl rfl hl.1 rfl (lv_room (Nat.le_of_ble_eq_true rfl)) d_Ed_real_10 ⟨Nat.le_of_ble_eq_true rfl, Nat.le_of_ble_eq_true rfl⟩) hP hD hS hA [] [0, 1, 2, 3] rfl rfl (by decide) (by decide) (fun r u H locs hp hP hD hS => ?_)
  obtain ⟨rfl, rfl⟩ := hp
  have hP : va_P D ecl [(x, .inr (1, [.ref dg, .int (iI (zc)), .int (iI (pt)), .int (iI (zl)), .ref q])), (dg, .inl (cB, 1200, .inl g)), (q, .inr (0, [.ref pa, .int (iI (zs))])), (pa, .inl (cI, 306, .inl f))] H := hP
  have hD : va_D A [(x, .inr (1, [.ref dg, .int (iI (zc)), .int (iI (pt)), .int (iI (zl)), .ref q])), (dg, .inl (cB, 1200, .inl g)), (q, .inr (0, [.ref pa, .int (iI (zs))])), (pa, .inl (cI, 306, .inl f))] := hD
  refine ed_tj (y := (y : Int)) (by rw [hyb]) ?_
  refine ed_pc (pc' := 13) rfl ?_
  refine lv_aload hx hb d_Ed_real_13 (lv_at hl 0 rfl) ?_
  refine c_fv (wc := [(x, .inr (1, [.ref dg, .int (iI (zc)), .int (iI (pt)), .int (iI (zl)), .ref q])), (dg, .inl (cB, 1200, .inl g)), (q, .inr (0, [.ref pa, .int (iI (zs))])), (pa, .inl (cI, 306, .inl f))]) (wr := []) (va_runV (C := "ExactDigits") (As := [.long (jI ((y : Int))), .ref (ad kf)]) (rest := []) ⟨hx, hb, hml, hown, hts⟩ (c_Ed_giveExact l D cB cI cJ t5 ad x dg q pa g f zs zc pt zl kf y hkf hy H.size) (cwV 2 hts (gV tw_232 tw_234 ts_6 tw_1 tw_235) rfl rfl rfl (by decide +kernel) ⟨Nat.le_of_ble_eq_true rfl, Nat.le_of_ble_eq_true rfl⟩) ⟨c_blind (eX_X t5 ad), va_recv (ci := 1) (q0 := 0) hK hP rfl rfl, fun U hU hW => c_pre (wc := [(x, .inr (1, [.ref dg, .int (iI (zc)), .int (iI (pt)), .int (iI (zl)), .ref q])), (dg, .inl (cB, 1200, .inl g)), (q, .inr (0, [.ref pa, .int (iI (zs))])), (pa, .inl (cI, 306, .inl f))]) (eX_X t5 ad) hE hK hP hD hS hA [0, 1, 2, 3] rfl (by decide) U hU hW⟩ rfl rfl hl.1 rfl (lv_room (Nat.le_of_ble_eq_true rfl)) d_Ed_real_15 ⟨Nat.le_of_ble_eq_true rfl, Nat.le_of_ble_eq_true rfl⟩) hP hD hS hA [0, 1, 2, 3] [] rfl rfl (by decide) (by decide) (fun u H locs hp hP hD hS => ?_)
  obtain ⟨g6, f6, zs6, hnm6, rfl⟩ := hp
  have hP : va_P D ecl [(x, .inr (1, [.ref dg, .int (iI (((dl (rz (exV kf y)) : Nat) : Int))), .int (iI (if y = 0 then 0 else ((dl (exV kf y) : Nat) : Int) + min (lez kf + ((exE kf y : Nat) : Int)) 0)), .int (iI (0)), .ref q])), (dg, .inl (cB, 1200, .inl g6)), (q, .inr (0, [.ref pa, .int (iI (zs6))])), (pa, .inl (cI, 306, .inl f6))] H := hP
  have hD : va_D A [(x, .inr (1, [.ref dg, .int (iI (((dl (rz (exV kf y)) : Nat) : Int))), .int (iI (if y = 0 then 0 else ((dl (exV kf y) : Nat) : Int) + min (lez kf + ((exE kf y : Nat) : Int)) 0)), .int (iI (0)), .ref q])), (dg, .inl (cB, 1200, .inl g6)), (q, .inr (0, [.ref pa, .int (iI (zs6))])), (pa, .inl (cI, 306, .inl f6))] := hD
  refine lv_aload_n hx hb d_Ed_real_18 rfl (lv_at hl 1 rfl) ?_
  refine va_get (D := D) (ci := 1) (v := .int (iI (((dl (rz (exV kf y)) : Nat) : Int)))) (C := R_Ed) (T := T_Ed) (N := 5) hx hb hts (fun w h => List.mem_cons_of_mem _ (in_Ed w h)) hown hK hP 0 rfl rfl 1 (by decide) (hts _ (List.mem_cons_of_mem _ tw_41)) (fun _ h9 => h9) rfl d_Ed_real_19 ?_
  exact W.iret (v := (iI (((dl (rz (exV kf y)) : Nat) : Int)))) hx hb hr (fun t9 ht9 hW9 => ⟨⟨(iI (((dl (rz (exV kf y)) : Nat) : Int))), [(x, .inr (1, [.ref dg, .int (iI (((dl (rz (exV kf y)) : Nat) : Int))), .int (iI (if y = 0 then 0 else ((dl (exV kf y) : Nat) : Int) + min (lez kf + ((exE kf y : Nat) : Int)) 0)), .int (iI (0)), .ref q])), (dg, .inl (cB, 1200, .inl g6)), (q, .inr (0, [.ref pa, .int (iI (zs6))])), (pa, .inl (cI, 306, .inl f6))], rfl, ⟨rfl, g6, f6, zs6, hnm6, rfl⟩, by rw [ht9]; exact hP, hD⟩, hS.F ht9⟩) hS.2.2 d_Ed_real_22
set_option maxHeartbeats 4000000 in
set_option maxRecDepth 100000 in
theorem c_Ed_real_no (l : Launch) (hl0 : l.stackTraces = false) (D : va_G) (cB cI cJ : ClassId) (t5 : Nat) (ad : Nat → Nat) (x dg q pa : Nat) (g f : Nat → Int32) (zs zc pt zl zz : Int) (kf b : Nat) (hzz : iR zz) (hkf9 : kf = if zz = 0 then 0 else 1) (hb64 : b < 2 ^ 64) (hfin : ifz kf ≤ b % (mkz kf + 1)) : c_T l m_Ed_real (Cond.code m_Ed_real b_Ed_real 5 (some .int) :: gw) (rmx_ 7 116) (eX t5 ad) D ecl (tyS cB cI cJ) [.ref x, .long (lN b), .int (iI (zz))] [(x, .inr (1, [.ref dg, .int (iI (zc)), .int (iI (pt)), .int (iI (zl)), .ref q])), (dg, .inl (cB, 1200, .inl g)), (q, .inr (0, [.ref pa, .int (iI (zs))])), (pa, .inl (cI, 306, .inl f))] xAE := by
  intro sz0
  refine vx_ofW (cc := b_Ed_real) (maxL := 5) (ret := (some .int)) (by decide) rfl ?_
  intro p e s m args below meth c s₁ B hml htab hv
  obtain ⟨rfl, hsz, hP, hK, hD0, hE⟩ := hv
  have hx := B.exec
  have hb := B.bytes
  have hr := B.returns
  have hts := atoms_spec (ws := Cond.code m_Ed_real b_Ed_real 5 (some .int) :: gw) B.pre
  have hown : s.vm.findClass R_Ed = some m.cls := findClass_of_methodNamed B.named
  have hlocks := B.notSynchronized
  subst hsz
  have hD := hD0.self (sz := s.heap.size)
  generalize hAe : va_A [(x, .inr (1, [.ref dg, .int (iI (zc)), .int (iI (pt)), .int (iI (zl)), .ref q])), (dg, .inl (cB, 1200, .inl g)), (q, .inr (0, [.ref pa, .int (iI (zs))])), (pa, .inl (cI, 306, .inl f))] s.heap.size = A at hD hE ⊢
  have hA : ∀ q : Nat, s.heap.size ≤ q → A q := fun q h => by rw [← hAe]; exact Or.inr h
  have hS : va_S A s.heap s.heap [] := va_S.rf
  have hl := lv_entry ([.ref x, .long (lN b), .int (iI (zz))]) (n := 5) (Nat.le_of_ble_eq_true rfl)
  rw [lg_entry_eq]
  generalize (lg_sl ([.ref x, .long (lN b), .int (iI (zz))]) ++ List.replicate (5 - (lg_sl ([.ref x, .long (lN b), .int (iI (zz))])).length) Slot.unset).toArray = ls at hl ⊢
  have hl : lv_has ls 5 [(0, .ref x), (1, .long (lN b)), (3, .int (iI (zz)))] := hl
  have hkf : kf < 2 := by rw [hkf9]; split <;> omega
  refine lv_iload_n hx hb d_Ed_real_0 rfl (lv_at hl 2 rfl) ?_
  refine c_fr (ra := ad kf) (va_runS (As := [.int (iI (zz))]) (rest := []) ⟨hx, hb, hml, hown, hts⟩ (c_Ed_formatOf l D cB cI cJ t5 ad zz kf hzz hkf9 s.heap.size) (va_cwS 1 hts (gS tw_103 tw_104 tw_1 tw_105) rfl rfl rfl (by decide +kernel) ⟨Nat.le_of_ble_eq_true rfl, Nat.le_of_ble_eq_true rfl⟩) ⟨c_blind (eX_X t5 ad), fun U hU hW => c_pre (wc := []) (eX_X t5 ad) hE hK hP hD hS hA [] rfl (by decide) U hU hW⟩ rfl rfl hl.1 rfl (lv_room (Nat.le_of_ble_eq_true rfl)) d_Ed_real_1 ⟨Nat.le_of_ble_eq_true rfl, Nat.le_of_ble_eq_true rfl⟩) hP hD hS hA [0, 1, 2, 3] rfl (by decide) (fun H locs hP hD hS => ?_)
  have hP : va_P D ecl [(x, .inr (1, [.ref dg, .int (iI (zc)), .int (iI (pt)), .int (iI (zl)), .ref q])), (dg, .inl (cB, 1200, .inl g)), (q, .inr (0, [.ref pa, .int (iI (zs))])), (pa, .inl (cI, 306, .inl f))] H := hP
  have hD : va_D A [(x, .inr (1, [.ref dg, .int (iI (zc)), .int (iI (pt)), .int (iI (zl)), .ref q])), (dg, .inl (cB, 1200, .inl g)), (q, .inr (0, [.ref pa, .int (iI (zs))])), (pa, .inl (cI, 306, .inl f))] := hD
  refine lv_astore hx hb d_Ed_real_4 hl (by decide) rfl (fun ls hl => ?_)
  have hl : lv_has ls 5 [(4, .ref (ad kf)), (0, .ref x), (1, .long (lN b)), (3, .int (iI (zz)))] := hl
  refine lv_aload_n hx hb d_Ed_real_6 rfl (lv_at hl 1 rfl) ?_
  refine lv_lload_n hx hb d_Ed_real_7 rfl (lv_at hl 2 rfl) ?_
  refine lv_aload hx hb d_Ed_real_8 (lv_at hl 0 rfl) ?_
  exact c_thr (vx_runS (As := [.long (lN b), .ref (ad kf)]) (rest := [.ref x]) ⟨hx, hb, hml, hown, hts⟩ (c_Ed_finiteSize_no l hl0 D cB cI cJ t5 ad kf b hkf hb64 hfin H.size) (va_cwS 2 hts (gS tw_163 tw_164 tw_1 tw_165) rfl rfl rfl (by decide +kernel) ⟨Nat.le_of_ble_eq_true rfl, Nat.le_of_ble_eq_true rfl⟩) ⟨c_blind (eX_X t5 ad), fun U hU hW => c_pre (wc := []) (eX_X t5 ad) hE hK hP hD hS hA [] rfl (by decide) U hU hW⟩ rfl rfl hl.1 rfl (lv_room (Nat.le_of_ble_eq_true rfl)) d_Ed_real_10 ⟨Nat.le_of_ble_eq_true rfl, Nat.le_of_ble_eq_true rfl⟩) hP hD hS hA htab hlocks (Nat.le_of_ble_eq_true rfl) (Nat.le_of_ble_eq_true rfl)
set_option maxHeartbeats 4000000 in
set_option maxRecDepth 100000 in
theorem c_Ed_shortest_no (l : Launch) (hl0 : l.stackTraces = false) (D : va_G) (cB cI cJ : ClassId) (t5 : Nat) (ad : Nat → Nat) (x dg q pa : Nat) (g f : Nat → Int32) (zs zc pt zl zz : Int) (kf b : Nat) (hzz : iR zz) (hkf9 : kf = if zz = 0 then 0 else 1) (hb64 : b < 2 ^ 64) (hfin : ifz kf ≤ b % (mkz kf + 1)) : c_T l m_Ed_shortest (Cond.code m_Ed_shortest b_Ed_shortest 7 (some .int) :: gw) (rmx_ 7 167) (eX t5 ad) D ecl (tyS cB cI cJ) [.ref x, .long (lN b), .int (iI (zz))] [(x, .inr (1, [.ref dg, .int (iI (zc)), .int (iI (pt)), .int (iI (zl)), .ref q])), (dg, .inl (cB, 1200, .inl g)), (q, .inr (0, [.ref pa, .int (iI (zs))])), (pa, .inl (cI, 306, .inl f))] xAE := by
  intro sz0
  refine vx_ofW (cc := b_Ed_shortest) (maxL := 7) (ret := (some .int)) (by decide) rfl ?_
  intro p e s m args below meth c s₁ B hml htab hv
  obtain ⟨rfl, hsz, hP, hK, hD0, hE⟩ := hv
  have hx := B.exec
  have hb := B.bytes
  have hr := B.returns
  have hts := atoms_spec (ws := Cond.code m_Ed_shortest b_Ed_shortest 7 (some .int) :: gw) B.pre
  have hown : s.vm.findClass R_Ed = some m.cls := findClass_of_methodNamed B.named
  have hlocks := B.notSynchronized
  subst hsz
  have hD := hD0.self (sz := s.heap.size)
  generalize hAe : va_A [(x, .inr (1, [.ref dg, .int (iI (zc)), .int (iI (pt)), .int (iI (zl)), .ref q])), (dg, .inl (cB, 1200, .inl g)), (q, .inr (0, [.ref pa, .int (iI (zs))])), (pa, .inl (cI, 306, .inl f))] s.heap.size = A at hD hE ⊢
  have hA : ∀ q : Nat, s.heap.size ≤ q → A q := fun q h => by rw [← hAe]; exact Or.inr h
  have hS : va_S A s.heap s.heap [] := va_S.rf
  have hl := lv_entry ([.ref x, .long (lN b), .int (iI (zz))]) (n := 7) (Nat.le_of_ble_eq_true rfl)
  rw [lg_entry_eq]
  generalize (lg_sl ([.ref x, .long (lN b), .int (iI (zz))]) ++ List.replicate (7 - (lg_sl ([.ref x, .long (lN b), .int (iI (zz))])).length) Slot.unset).toArray = ls at hl ⊢
  have hl : lv_has ls 7 [(0, .ref x), (1, .long (lN b)), (3, .int (iI (zz)))] := hl
  have hkf : kf < 2 := by rw [hkf9]; split <;> omega
  refine lv_iload_n hx hb d_Ed_shortest_0 rfl (lv_at hl 2 rfl) ?_
  refine c_fr (ra := ad kf) (va_runS (As := [.int (iI (zz))]) (rest := []) ⟨hx, hb, hml, hown, hts⟩ (c_Ed_formatOf l D cB cI cJ t5 ad zz kf hzz hkf9 s.heap.size) (va_cwS 1 hts (gS tw_103 tw_104 tw_1 tw_105) rfl rfl rfl (by decide +kernel) ⟨Nat.le_of_ble_eq_true rfl, Nat.le_of_ble_eq_true rfl⟩) ⟨c_blind (eX_X t5 ad), fun U hU hW => c_pre (wc := []) (eX_X t5 ad) hE hK hP hD hS hA [] rfl (by decide) U hU hW⟩ rfl rfl hl.1 rfl (lv_room (Nat.le_of_ble_eq_true rfl)) d_Ed_shortest_1 ⟨Nat.le_of_ble_eq_true rfl, Nat.le_of_ble_eq_true rfl⟩) hP hD hS hA [0, 1, 2, 3] rfl (by decide) (fun H locs hP hD hS => ?_)
  have hP : va_P D ecl [(x, .inr (1, [.ref dg, .int (iI (zc)), .int (iI (pt)), .int (iI (zl)), .ref q])), (dg, .inl (cB, 1200, .inl g)), (q, .inr (0, [.ref pa, .int (iI (zs))])), (pa, .inl (cI, 306, .inl f))] H := hP
  have hD : va_D A [(x, .inr (1, [.ref dg, .int (iI (zc)), .int (iI (pt)), .int (iI (zl)), .ref q])), (dg, .inl (cB, 1200, .inl g)), (q, .inr (0, [.ref pa, .int (iI (zs))])), (pa, .inl (cI, 306, .inl f))] := hD
  refine lv_astore hx hb d_Ed_shortest_4 hl (by decide) rfl (fun ls hl => ?_)
  have hl : lv_has ls 7 [(4, .ref (ad kf)), (0, .ref x), (1, .long (lN b)), (3, .int (iI (zz)))] := hl
  refine lv_lload_n hx hb d_Ed_shortest_6 rfl (lv_at hl 2 rfl) ?_
  refine lv_aload hx hb d_Ed_shortest_7 (lv_at hl 0 rfl) ?_
  exact c_thr (vx_runS (As := [.long (lN b), .ref (ad kf)]) (rest := []) ⟨hx, hb, hml, hown, hts⟩ (c_Ed_finiteSize_no l hl0 D cB cI cJ t5 ad kf b hkf hb64 hfin H.size) (va_cwS 2 hts (gS tw_163 tw_164 tw_1 tw_165) rfl rfl rfl (by decide +kernel) ⟨Nat.le_of_ble_eq_true rfl, Nat.le_of_ble_eq_true rfl⟩) ⟨c_blind (eX_X t5 ad), fun U hU hW => c_pre (wc := []) (eX_X t5 ad) hE hK hP hD hS hA [] rfl (by decide) U hU hW⟩ rfl rfl hl.1 rfl (lv_room (Nat.le_of_ble_eq_true rfl)) d_Ed_shortest_9 ⟨Nat.le_of_ble_eq_true rfl, Nat.le_of_ble_eq_true rfl⟩) hP hD hS hA htab hlocks (Nat.le_of_ble_eq_true rfl) (Nat.le_of_ble_eq_true rfl)
