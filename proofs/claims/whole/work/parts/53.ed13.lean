set_option maxHeartbeats 4000000 in
set_option maxRecDepth 100000 in
theorem c_Ed_shortest (l : Launch) (D : va_G) (cB cI cJ : ClassId) (t5 : Nat) (ad : Nat → Nat) (x dg q pa : Nat) (g f : Nat → Int32) (zs zc pt zl zz : Int) (kf b : Nat) (hzz : iR zz) (hkf9 : kf = if zz = 0 then 0 else 1) (hb64 : b < 2 ^ 64) (y : Nat) (hyb : y = b % (mkz kf + 1)) (hy : y < ifz kf) : c_I l m_Ed_shortest (Cond.code m_Ed_shortest b_Ed_shortest 7 (some .int) :: gw) (rm_ 7 167) (eX t5 ad) D ecl (tyS cB cI cJ) [.ref x, .long (lN b), .int (iI (zz))] [(x, .inr (1, [.ref dg, .int (iI (zc)), .int (iI (pt)), .int (iI (zl)), .ref q])), (dg, .inl (cB, 1200, .inl g)), (q, .inr (0, [.ref pa, .int (iI (zs))])), (pa, .inl (cI, 306, .inl f))] (fun r u => ∃ (f' : Nat → Int32) (zs' : Int), (∃ (n v : Nat) (g' : Nat → Int32), 2 ≤ n ∧ n < dl (rz (exV kf y)) ∧ (∀ j, 2 ≤ j → j < n → NBno (rz (exV kf y)) j ((if y = 0 then 0 else ((dl (exV kf y) : Nat) : Int) + min (lez kf + ((exE kf y : Nat) : Int)) 0) - (j : Int)) kf y) ∧ NBR (rz (exV kf y)) n ((if y = 0 then 0 else ((dl (exV kf y) : Nat) : Int) + min (lez kf + ((exE kf y : Nat) : Int)) 0) - (n : Int)) kf y v ∧ nm_ok g' (gvD v) ∧ r = iI ((dl (gvD v) : Nat) : Int) ∧ u = [(x, .inr (1, [.ref dg, .int (iI (((dl (gvD v) : Nat) : Int))), .int (iI (if v = 0 then 0 else ((dl v : Nat) : Int) + ((if y = 0 then 0 else ((dl (exV kf y) : Nat) : Int) + min (lez kf + ((exE kf y : Nat) : Int)) 0) - (n : Int)))), .int (iI (hdb v (((dl v : Nat) : Int) - 1200))), .ref q])), (dg, .inl (cB, 1200, .inl g')), (q, .inr (0, [.ref pa, .int (iI (zs'))])), (pa, .inl (cI, 306, .inl f'))]) ∨ ((∀ j, 2 ≤ j → j < dl (rz (exV kf y)) → NBno (rz (exV kf y)) j ((if y = 0 then 0 else ((dl (exV kf y) : Nat) : Int) + min (lez kf + ((exE kf y : Nat) : Int)) 0) - (j : Int)) kf y) ∧ r = iI ((dl (rz (exV kf y)) : Nat) : Int) ∧ ∃ g' : Nat → Int32, nm_ok g' (rz (exV kf y)) ∧ u = [(x, .inr (1, [.ref dg, .int (iI (((dl (rz (exV kf y)) : Nat) : Int))), .int (iI (if y = 0 then 0 else ((dl (exV kf y) : Nat) : Int) + min (lez kf + ((exE kf y : Nat) : Int)) 0)), .int (iI (0)), .ref q])), (dg, .inl (cB, 1200, .inl g')), (q, .inr (0, [.ref pa, .int (iI (zs'))])), (pa, .inl (cI, 306, .inl f'))])) 0 0 := by
  intro sz0
  refine Met.ofW (cc := b_Ed_shortest) (maxL := 7) (ret := (some .int)) (by decide) rfl ?_
  intro p e s m args below meth c s₁ B hml hv
  obtain ⟨rfl, hsz, hP, hK, hD0, hE⟩ := hv
  have hx := B.exec
  have hb := B.bytes
  have hr := B.returns
  have hts := atoms_spec (ws := Cond.code m_Ed_shortest b_Ed_shortest 7 (some .int) :: gw) B.pre
  have hown : s.vm.findClass R_Ed = some m.cls := findClass_of_methodNamed B.named
  have hlocks := B.notSynchronized
  subst hsz
  have hD := hD0.self (sz := s.heap.size)
  generalize hAe : va_A [(x, .inr (1, [.ref dg, .int (iI (zc)), .int (iI (pt)), .int (iI (zl)), .ref q])), (dg, .inl (cB, 1200, .inl g)), (q, .inr (0, [.ref pa, .int (iI (zs))])), (pa, .inl (cI, 306, .inl f))] s.heap.size = A at hD hE ⊢
  have hA : ∀ q : Nat, s.heap.size ≤ q → A q := fun q h => by rw [← hAe]; exact Or.inr h
  have hS : va_S A s.heap s.heap [] := va_S.rf
  have hl := lv_entry ([.ref x, .long (lN b), .int (iI (zz))]) (n := 7) (Nat.le_of_ble_eq_true rfl)
  rw [lg_entry_eq]
  generalize (lg_sl ([.ref x, .long (lN b), .int (iI (zz))]) ++ List.replicate (7 - (lg_sl ([.ref x, .long (lN b), .int (iI (zz))])).length) Slot.unset).toArray = ls at hl ⊢
  have hl : lv_has ls 7 [(0, .ref x), (1, .long (lN b)), (3, .int (iI (zz)))] := hl
  have hkf : kf < 2 := by rw [hkf9]; split <;> omega
  have hfz := fz_all kf hkf
  have hVd := ex_dl hkf hy
  have hee := ex_e hkf hy
  have hPr : -1000000 ≤ (if y = 0 then 0 else ((dl (exV kf y) : Nat) : Int) + min (lez kf + ((exE kf y : Nat) : Int)) 0) ∧ (if y = 0 then 0 else ((dl (exV kf y) : Nat) : Int) + min (lez kf + ((exE kf y : Nat) : Int)) 0) ≤ 1000000 := by split <;> omega
  have hxa : (rz (exV kf y)) = 0 ∨ EXA (rz (exV kf y)) (if y = 0 then 0 else ((dl (exV kf y) : Nat) : Int) + min (lez kf + ((exE kf y : Nat) : Int)) 0) kf (exE kf y) (sgz kf y) := by
    rcases Nat.eq_zero_or_pos y with z | z
    · left; unfold exV; rw [ex_0.mpr z, Nat.zero_mul, rz_0]
    · right; rw [if_neg (by omega)]; exact ex_exa hkf hy z
  refine lv_iload_n hx hb d_Ed_shortest_0 rfl (lv_at hl 2 rfl) ?_
  refine c_fr (ra := ad kf) (va_runS (As := [.int (iI (zz))]) (rest := []) ⟨hx, hb, hml, hown, hts⟩ (c_Ed_formatOf l D cB cI cJ t5 ad zz kf hzz hkf9 s.heap.size) (va_cwS 1 hts (gS tw_103 tw_104 tw_1 tw_105) rfl rfl rfl (by decide +kernel) ⟨Nat.le_of_ble_eq_true rfl, Nat.le_of_ble_eq_true rfl⟩) ⟨c_blind (eX_X t5 ad), fun U hU hW => c_pre (wc := []) (eX_X t5 ad) hE hK hP hD hS hA [] rfl (by decide) U hU hW⟩ rfl rfl hl.1 rfl (lv_room (Nat.le_of_ble_eq_true rfl)) d_Ed_shortest_1 ⟨Nat.le_of_ble_eq_true rfl, Nat.le_of_ble_eq_true rfl⟩) hP hD hS hA [0, 1, 2, 3] rfl (by decide) (fun H locs hP hD hS => ?_)
  have hP : va_P D ecl [(x, .inr (1, [.ref dg, .int (iI (zc)), .int (iI (pt)), .int (iI (zl)), .ref q])), (dg, .inl (cB, 1200, .inl g)), (q, .inr (0, [.ref pa, .int (iI (zs))])), (pa, .inl (cI, 306, .inl f))] H := hP
  have hD : va_D A [(x, .inr (1, [.ref dg, .int (iI (zc)), .int (iI (pt)), .int (iI (zl)), .ref q])), (dg, .inl (cB, 1200, .inl g)), (q, .inr (0, [.ref pa, .int (iI (zs))])), (pa, .inl (cI, 306, .inl f))] := hD
  refine lv_astore hx hb d_Ed_shortest_4 hl (by decide) rfl (fun ls hl => ?_)
  have hl : lv_has ls 7 [(4, .ref (ad kf)), (0, .ref x), (1, .long (lN b)), (3, .int (iI (zz)))] := hl
  refine lv_lload_n hx hb d_Ed_shortest_6 rfl (lv_at hl 2 rfl) ?_
  refine lv_aload hx hb d_Ed_shortest_7 (lv_at hl 0 rfl) ?_
  refine c_fl (wc := []) (wr := [(x, .inr (1, [.ref dg, .int (iI (zc)), .int (iI (pt)), .int (iI (zl)), .ref q])), (dg, .inl (cB, 1200, .inl g)), (q, .inr (0, [.ref pa, .int (iI (zs))])), (pa, .inl (cI, 306, .inl f))]) (va_runS (As := [.long (lN b), .ref (ad kf)]) (rest := []) ⟨hx, hb, hml, hown, hts⟩ (c_Ed_finiteSize l D cB cI cJ t5 ad kf b hkf hb64 (by rw [← hyb]; exact hy) H.size) (va_cwS 2 hts (gS tw_163 tw_164 tw_1 tw_165) rfl rfl rfl (by decide +kernel) ⟨Nat.le_of_ble_eq_true rfl, Nat.le_of_ble_eq_true rfl⟩) ⟨c_blind (eX_X t5 ad), fun U hU hW => c_pre (wc := []) (eX_X t5 ad) hE hK hP hD hS hA [] rfl (by decide) U hU hW⟩ rfl rfl hl.1 rfl (lv_room (Nat.le_of_ble_eq_true rfl)) d_Ed_shortest_9 ⟨Nat.le_of_ble_eq_true rfl, Nat.le_of_ble_eq_true rfl⟩) hP hD hS hA [] [0, 1, 2, 3] rfl rfl (by decide) (by decide) (fun r u H locs hp hP hD hS => ?_)
  obtain ⟨rfl, rfl⟩ := hp
  have hP : va_P D ecl [(x, .inr (1, [.ref dg, .int (iI (zc)), .int (iI (pt)), .int (iI (zl)), .ref q])), (dg, .inl (cB, 1200, .inl g)), (q, .inr (0, [.ref pa, .int (iI (zs))])), (pa, .inl (cI, 306, .inl f))] H := hP
  have hD : va_D A [(x, .inr (1, [.ref dg, .int (iI (zc)), .int (iI (pt)), .int (iI (zl)), .ref q])), (dg, .inl (cB, 1200, .inl g)), (q, .inr (0, [.ref pa, .int (iI (zs))])), (pa, .inl (cI, 306, .inl f))] := hD
  refine ed_tj (y := (y : Int)) (by rw [hyb]) ?_
  refine lv_lstore hx hb d_Ed_shortest_12 hl (by decide) rfl (fun ls hl => ?_)
  have hl : lv_has ls 7 [(5, .long (jI ((y : Int)))), (4, .ref (ad kf)), (0, .ref x), (1, .long (lN b)), (3, .int (iI (zz)))] := hl
  refine ed_pc (pc' := 14) rfl ?_
  refine lv_aload_n hx hb d_Ed_shortest_14 rfl (lv_at hl 2 rfl) ?_
  refine lv_lload hx hb d_Ed_shortest_15 (lv_at hl 0 rfl) ?_
  refine lv_aload hx hb d_Ed_shortest_17 (lv_at hl 1 rfl) ?_
  refine c_fv (wc := [(x, .inr (1, [.ref dg, .int (iI (zc)), .int (iI (pt)), .int (iI (zl)), .ref q])), (dg, .inl (cB, 1200, .inl g)), (q, .inr (0, [.ref pa, .int (iI (zs))])), (pa, .inl (cI, 306, .inl f))]) (wr := []) (va_runV (C := "ExactDigits") (As := [.long (jI ((y : Int))), .ref (ad kf)]) (rest := []) ⟨hx, hb, hml, hown, hts⟩ (c_Ed_giveExact l D cB cI cJ t5 ad x dg q pa g f zs zc pt zl kf y hkf hy H.size) (cwV 2 hts (gV tw_232 tw_234 ts_6 tw_1 tw_235) rfl rfl rfl (by decide +kernel) ⟨Nat.le_of_ble_eq_true rfl, Nat.le_of_ble_eq_true rfl⟩) ⟨c_blind (eX_X t5 ad), va_recv (ci := 1) (q0 := 0) hK hP rfl rfl, fun U hU hW => c_pre (wc := [(x, .inr (1, [.ref dg, .int (iI (zc)), .int (iI (pt)), .int (iI (zl)), .ref q])), (dg, .inl (cB, 1200, .inl g)), (q, .inr (0, [.ref pa, .int (iI (zs))])), (pa, .inl (cI, 306, .inl f))]) (eX_X t5 ad) hE hK hP hD hS hA [0, 1, 2, 3] rfl (by decide) U hU hW⟩ rfl rfl hl.1 rfl (lv_room (Nat.le_of_ble_eq_true rfl)) d_Ed_shortest_19 ⟨Nat.le_of_ble_eq_true rfl, Nat.le_of_ble_eq_true rfl⟩) hP hD hS hA [0, 1, 2, 3] [] rfl rfl (by decide) (by decide) (fun u H locs hp hP hD hS => ?_)
  obtain ⟨g6, f6, zs6, hnm6, rfl⟩ := hp
  have hP : va_P D ecl [(x, .inr (1, [.ref dg, .int (iI (((dl (rz (exV kf y)) : Nat) : Int))), .int (iI (if y = 0 then 0 else ((dl (exV kf y) : Nat) : Int) + min (lez kf + ((exE kf y : Nat) : Int)) 0)), .int (iI (0)), .ref q])), (dg, .inl (cB, 1200, .inl g6)), (q, .inr (0, [.ref pa, .int (iI (zs6))])), (pa, .inl (cI, 306, .inl f6))] H := hP
  have hD : va_D A [(x, .inr (1, [.ref dg, .int (iI (((dl (rz (exV kf y)) : Nat) : Int))), .int (iI (if y = 0 then 0 else ((dl (exV kf y) : Nat) : Int) + min (lez kf + ((exE kf y : Nat) : Int)) 0)), .int (iI (0)), .ref q])), (dg, .inl (cB, 1200, .inl g6)), (q, .inr (0, [.ref pa, .int (iI (zs6))])), (pa, .inl (cI, 306, .inl f6))] := hD
  refine lv_aload_n hx hb d_Ed_shortest_22 rfl (lv_at hl 2 rfl) ?_
  refine lv_lload hx hb d_Ed_shortest_23 (lv_at hl 0 rfl) ?_
  refine lv_aload hx hb d_Ed_shortest_25 (lv_at hl 1 rfl) ?_
  refine c_fv (wc := [(x, .inr (1, [.ref dg, .int (iI (((dl (rz (exV kf y)) : Nat) : Int))), .int (iI (if y = 0 then 0 else ((dl (exV kf y) : Nat) : Int) + min (lez kf + ((exE kf y : Nat) : Int)) 0)), .int (iI (0)), .ref q])), (dg, .inl (cB, 1200, .inl g6)), (q, .inr (0, [.ref pa, .int (iI (zs6))])), (pa, .inl (cI, 306, .inl f6))]) (wr := []) (va_runV (C := "ExactDigits") (As := [.long (jI ((y : Int))), .ref (ad kf)]) (rest := []) ⟨hx, hb, hml, hown, hts⟩ (c_Ed_shorten l D cB cI cJ t5 ad x dg q pa g6 f6 zs6 (if y = 0 then 0 else ((dl (exV kf y) : Nat) : Int) + min (lez kf + ((exE kf y : Nat) : Int)) 0) 0 (rz (exV kf y)) kf y (exE kf y) (sgz kf y) hkf hnm6 (ex_s kf y) hxa hPr H.size) (cwV 2 hts (gV tw_251 tw_253 ts_7 tw_1 tw_254) rfl rfl rfl (by decide +kernel) ⟨Nat.le_of_ble_eq_true rfl, Nat.le_of_ble_eq_true rfl⟩) ⟨c_blind (eX_X t5 ad), va_recv (ci := 1) (q0 := 0) hK hP rfl rfl, fun U hU hW => c_pre (wc := [(x, .inr (1, [.ref dg, .int (iI (((dl (rz (exV kf y)) : Nat) : Int))), .int (iI (if y = 0 then 0 else ((dl (exV kf y) : Nat) : Int) + min (lez kf + ((exE kf y : Nat) : Int)) 0)), .int (iI (0)), .ref q])), (dg, .inl (cB, 1200, .inl g6)), (q, .inr (0, [.ref pa, .int (iI (zs6))])), (pa, .inl (cI, 306, .inl f6))]) (eX_X t5 ad) hE hK hP hD hS hA [0, 1, 2, 3] rfl (by decide) U hU hW⟩ rfl rfl hl.1 rfl (lv_room (Nat.le_of_ble_eq_true rfl)) d_Ed_shortest_27 ⟨Nat.le_of_ble_eq_true rfl, Nat.le_of_ble_eq_true rfl⟩) hP hD hS hA [0, 1, 2, 3] [] rfl rfl (by decide) (by decide) (fun u H locs hp hP hD hS => ?_)
  obtain ⟨f7, zs7, hsh⟩ := hp
  rcases hsh with ⟨n, v, g7, hn2, hnL, hno, hnbr, hnm7, rfl⟩ | ⟨hno, rfl⟩
  · skip
    have hP : va_P D ecl [(x, .inr (1, [.ref dg, .int (iI (((dl (gvD v) : Nat) : Int))), .int (iI (if v = 0 then 0 else ((dl v : Nat) : Int) + ((if y = 0 then 0 else ((dl (exV kf y) : Nat) : Int) + min (lez kf + ((exE kf y : Nat) : Int)) 0) - (n : Int)))), .int (iI (hdb v (((dl v : Nat) : Int) - 1200))), .ref q])), (dg, .inl (cB, 1200, .inl g7)), (q, .inr (0, [.ref pa, .int (iI (zs7))])), (pa, .inl (cI, 306, .inl f7))] H := hP
    have hD : va_D A [(x, .inr (1, [.ref dg, .int (iI (((dl (gvD v) : Nat) : Int))), .int (iI (if v = 0 then 0 else ((dl v : Nat) : Int) + ((if y = 0 then 0 else ((dl (exV kf y) : Nat) : Int) + min (lez kf + ((exE kf y : Nat) : Int)) 0) - (n : Int)))), .int (iI (hdb v (((dl v : Nat) : Int) - 1200))), .ref q])), (dg, .inl (cB, 1200, .inl g7)), (q, .inr (0, [.ref pa, .int (iI (zs7))])), (pa, .inl (cI, 306, .inl f7))] := hD
    refine lv_aload_n hx hb d_Ed_shortest_30 rfl (lv_at hl 2 rfl) ?_
    refine ed_pc (pc' := 31) rfl ?_
    refine va_get (D := D) (ci := 1) (v := .int (iI (((dl (gvD v) : Nat) : Int)))) (C := R_Ed) (T := T_Ed) (N := 5) hx hb hts (fun w h => List.mem_cons_of_mem _ (in_Ed w h)) hown hK hP 0 rfl rfl 1 (by decide) (hts _ (List.mem_cons_of_mem _ tw_41)) (fun _ h9 => h9) rfl d_Ed_shortest_31 ?_
    exact W.iret (v := (iI (((dl (gvD v) : Nat) : Int)))) hx hb hr (fun t9 ht9 hW9 => ⟨⟨(iI (((dl (gvD v) : Nat) : Int))), [(x, .inr (1, [.ref dg, .int (iI (((dl (gvD v) : Nat) : Int))), .int (iI (if v = 0 then 0 else ((dl v : Nat) : Int) + ((if y = 0 then 0 else ((dl (exV kf y) : Nat) : Int) + min (lez kf + ((exE kf y : Nat) : Int)) 0) - (n : Int)))), .int (iI (hdb v (((dl v : Nat) : Int) - 1200))), .ref q])), (dg, .inl (cB, 1200, .inl g7)), (q, .inr (0, [.ref pa, .int (iI (zs7))])), (pa, .inl (cI, 306, .inl f7))], rfl, ⟨f7, zs7, Or.inl ⟨n, v, g7, hn2, hnL, hno, hnbr, hnm7, rfl, rfl⟩⟩, by rw [ht9]; exact hP, hD⟩, hS.F ht9⟩) hS.2.2 d_Ed_shortest_34
  · skip
    have hP : va_P D ecl [(x, .inr (1, [.ref dg, .int (iI (((dl (rz (exV kf y)) : Nat) : Int))), .int (iI (if y = 0 then 0 else ((dl (exV kf y) : Nat) : Int) + min (lez kf + ((exE kf y : Nat) : Int)) 0)), .int (iI (0)), .ref q])), (dg, .inl (cB, 1200, .inl g6)), (q, .inr (0, [.ref pa, .int (iI (zs7))])), (pa, .inl (cI, 306, .inl f7))] H := hP
    have hD : va_D A [(x, .inr (1, [.ref dg, .int (iI (((dl (rz (exV kf y)) : Nat) : Int))), .int (iI (if y = 0 then 0 else ((dl (exV kf y) : Nat) : Int) + min (lez kf + ((exE kf y : Nat) : Int)) 0)), .int (iI (0)), .ref q])), (dg, .inl (cB, 1200, .inl g6)), (q, .inr (0, [.ref pa, .int (iI (zs7))])), (pa, .inl (cI, 306, .inl f7))] := hD
    refine lv_aload_n hx hb d_Ed_shortest_30 rfl (lv_at hl 2 rfl) ?_
    refine ed_pc (pc' := 31) rfl ?_
    refine va_get (D := D) (ci := 1) (v := .int (iI (((dl (rz (exV kf y)) : Nat) : Int)))) (C := R_Ed) (T := T_Ed) (N := 5) hx hb hts (fun w h => List.mem_cons_of_mem _ (in_Ed w h)) hown hK hP 0 rfl rfl 1 (by decide) (hts _ (List.mem_cons_of_mem _ tw_41)) (fun _ h9 => h9) rfl d_Ed_shortest_31 ?_
    exact W.iret (v := (iI (((dl (rz (exV kf y)) : Nat) : Int)))) hx hb hr (fun t9 ht9 hW9 => ⟨⟨(iI (((dl (rz (exV kf y)) : Nat) : Int))), [(x, .inr (1, [.ref dg, .int (iI (((dl (rz (exV kf y)) : Nat) : Int))), .int (iI (if y = 0 then 0 else ((dl (exV kf y) : Nat) : Int) + min (lez kf + ((exE kf y : Nat) : Int)) 0)), .int (iI (0)), .ref q])), (dg, .inl (cB, 1200, .inl g6)), (q, .inr (0, [.ref pa, .int (iI (zs7))])), (pa, .inl (cI, 306, .inl f7))], rfl, ⟨f7, zs7, Or.inr ⟨hno, rfl, g6, hnm6, rfl⟩⟩, by rw [ht9]; exact hP, hD⟩, hS.F ht9⟩) hS.2.2 d_Ed_shortest_34
set_option maxHeartbeats 4000000 in
set_option maxRecDepth 100000 in
theorem c_Ed_nearest (l : Launch) (D : va_G) (cB cI cJ : ClassId) (t5 : Nat) (ad : Nat → Nat) (x dg q pa : Nat) (g f : Nat → Int32) (zs pt zl zz : Int) (X kf : Nat) (hzz : iR zz) (hkf9 : kf = if zz = 0 then 0 else 1) (hnm : nm_ok g X) (hpt : -9000000 ≤ pt ∧ pt ≤ 9000000) (hzl : zl = 0 ∨ zl = 1) : c_L l m_Ed_nearest (Cond.code m_Ed_nearest b_Ed_nearest 2 (some .long) :: gw) (rm_ 3 84) (eX t5 ad) D ecl (tyS cB cI cJ) [.ref x, .int (iI (zz))] [(x, .inr (1, [.ref dg, .int (iI (((dl X : Nat) : Int))), .int (iI (pt)), .int (iI (zl)), .ref q])), (dg, .inl (cB, 1200, .inl g)), (q, .inr (0, [.ref pa, .int (iI (zs))])), (pa, .inl (cI, 306, .inl f))] (fun r u => (∃ rn : Nat, r = jI (rn : Int) ∧ NR (fbz kf + 1) (ifz kf) (nP X (pt - ((dl X : Nat) : Int)) kf) (nM (pt - ((dl X : Nat) : Int))) (zl = 1) rn) ∧ ∃ (f' : Nat → Int32) (zs' : Int), u = [(x, .inr (1, [.ref dg, .int (iI (((dl X : Nat) : Int))), .int (iI (pt)), .int (iI (zl)), .ref q])), (dg, .inl (cB, 1200, .inl g)), (q, .inr (0, [.ref pa, .int (iI (zs'))])), (pa, .inl (cI, 306, .inl f'))]) 0 0 := by
  intro sz0
  refine Met.ofW (cc := b_Ed_nearest) (maxL := 2) (ret := (some .long)) (by decide) rfl ?_
  intro p e s m args below meth c s₁ B hml hv
  obtain ⟨rfl, hsz, hP, hK, hD0, hE⟩ := hv
  have hx := B.exec
  have hb := B.bytes
  have hr := B.returns
  have hts := atoms_spec (ws := Cond.code m_Ed_nearest b_Ed_nearest 2 (some .long) :: gw) B.pre
  have hown : s.vm.findClass R_Ed = some m.cls := findClass_of_methodNamed B.named
  have hlocks := B.notSynchronized
  subst hsz
  have hD := hD0.self (sz := s.heap.size)
  generalize hAe : va_A [(x, .inr (1, [.ref dg, .int (iI (((dl X : Nat) : Int))), .int (iI (pt)), .int (iI (zl)), .ref q])), (dg, .inl (cB, 1200, .inl g)), (q, .inr (0, [.ref pa, .int (iI (zs))])), (pa, .inl (cI, 306, .inl f))] s.heap.size = A at hD hE ⊢
  have hA : ∀ q : Nat, s.heap.size ≤ q → A q := fun q h => by rw [← hAe]; exact Or.inr h
  have hS : va_S A s.heap s.heap [] := va_S.rf
  have hl := lv_entry ([.ref x, .int (iI (zz))]) (n := 2) (Nat.le_of_ble_eq_true rfl)
  rw [lg_entry_eq]
  generalize (lg_sl ([.ref x, .int (iI (zz))]) ++ List.replicate (2 - (lg_sl ([.ref x, .int (iI (zz))])).length) Slot.unset).toArray = ls at hl ⊢
  have hl : lv_has ls 2 [(0, .ref x), (1, .int (iI (zz)))] := hl
  have hkf : kf < 2 := by rw [hkf9]; split <;> omega
  have hX12 := hnm.1
  refine lv_aload_n hx hb d_Ed_nearest_0 rfl (lv_at hl 0 rfl) ?_
  refine va_get (D := D) (ci := 1) (v := .ref q) (C := R_Ed) (T := T_Ed) (N := 5) hx hb hts (fun w h => List.mem_cons_of_mem _ (in_Ed w h)) hown hK hP 0 rfl rfl 4 (by decide) (hts _ (List.mem_cons_of_mem _ tw_44)) (fun _ h9 => h9) rfl d_Ed_nearest_1 ?_
  refine lv_aload_n hx hb d_Ed_nearest_4 rfl (lv_at hl 0 rfl) ?_
  refine va_get (D := D) (ci := 1) (v := .ref dg) (C := R_Ed) (T := T_Ed) (N := 5) hx hb hts (fun w h => List.mem_cons_of_mem _ (in_Ed w h)) hown hK hP 0 rfl rfl 0 (by decide) (hts _ (List.mem_cons_of_mem _ tw_40)) (fun _ h9 => h9) rfl d_Ed_nearest_5 ?_
  refine lv_aload_n hx hb d_Ed_nearest_8 rfl (lv_at hl 0 rfl) ?_
  refine va_get (D := D) (ci := 1) (v := .int (iI (((dl X : Nat) : Int)))) (C := R_Ed) (T := T_Ed) (N := 5) hx hb hts (fun w h => List.mem_cons_of_mem _ (in_Ed w h)) hown hK hP 0 rfl rfl 1 (by decide) (hts _ (List.mem_cons_of_mem _ tw_41)) (fun _ h9 => h9) rfl d_Ed_nearest_9 ?_
  refine c_fv (wc := [(q, .inr (0, [.ref pa, .int (iI (zs))])), (pa, .inl (cI, 306, .inl f)), (dg, .inl (cB, 1200, .inl g))]) (wr := [(x, .inr (1, [.ref dg, .int (iI (((dl X : Nat) : Int))), .int (iI (pt)), .int (iI (zl)), .ref q]))]) (va_runV (C := "ExactDigits$Natural") (As := [.ref dg, .int (iI (((dl X : Nat) : Int)))]) (rest := []) ⟨hx, hb, hml, hown, hts⟩ (c_Na_setDigits l D cB cI cJ t5 ad q pa dg f g zs (dl X) X hX12 (dl_lt X) (fun z => dl_le (by rcases Nat.eq_zero_or_pos X with y | y; rw [y, dl_0] at z; omega; exact y)) hnm.2.2 s.heap.size) (cwV 2 hts (gV tw_99 tw_100 tw_101 tw_2 tw_102) rfl rfl rfl (by decide +kernel) ⟨Nat.le_of_ble_eq_true rfl, Nat.le_of_ble_eq_true rfl⟩) ⟨c_blind (eX_X t5 ad), va_recv (ci := 0) (q0 := 2) hK hP rfl rfl, fun U hU hW => c_pre (wc := [(q, .inr (0, [.ref pa, .int (iI (zs))])), (pa, .inl (cI, 306, .inl f)), (dg, .inl (cB, 1200, .inl g))]) (eX_X t5 ad) hE hK hP hD hS hA [2, 3, 1] rfl (by decide) U hU hW⟩ rfl rfl hl.1 rfl (lv_room (Nat.le_of_ble_eq_true rfl)) d_Ed_nearest_12 ⟨Nat.le_of_ble_eq_true rfl, Nat.le_of_ble_eq_true rfl⟩) hP hD hS hA [2, 3, 1] [0] rfl rfl (by decide) (by decide) (fun u H locs hp hP hD hS => ?_)
  obtain ⟨f2, s2, rfl, hok⟩ := hp
  have hP : va_P D ecl [(x, .inr (1, [.ref dg, .int (iI (((dl X : Nat) : Int))), .int (iI (pt)), .int (iI (zl)), .ref q])), (q, .inr (0, [.ref pa, .int (iI ((s2 : Int)))])), (pa, .inl (cI, 306, .inl f2)), (dg, .inl (cB, 1200, .inl g))] H := hP
  have hD : va_D A [(x, .inr (1, [.ref dg, .int (iI (((dl X : Nat) : Int))), .int (iI (pt)), .int (iI (zl)), .ref q])), (q, .inr (0, [.ref pa, .int (iI ((s2 : Int)))])), (pa, .inl (cI, 306, .inl f2)), (dg, .inl (cB, 1200, .inl g))] := hD
  refine ed_pc (pc' := 15) rfl ?_
  refine lv_aload_n hx hb d_Ed_nearest_15 rfl (lv_at hl 0 rfl) ?_
  refine lv_aload_n hx hb d_Ed_nearest_16 rfl (lv_at hl 0 rfl) ?_
  refine va_get (D := D) (ci := 1) (v := .int (iI (pt))) (C := R_Ed) (T := T_Ed) (N := 5) hx hb hts (fun w h => List.mem_cons_of_mem _ (in_Ed w h)) hown hK hP 0 rfl rfl 2 (by decide) (hts _ (List.mem_cons_of_mem _ tw_42)) (fun _ h9 => h9) rfl d_Ed_nearest_17 ?_
  refine lv_aload_n hx hb d_Ed_nearest_20 rfl (lv_at hl 0 rfl) ?_
  refine va_get (D := D) (ci := 1) (v := .int (iI (((dl X : Nat) : Int)))) (C := R_Ed) (T := T_Ed) (N := 5) hx hb hts (fun w h => List.mem_cons_of_mem _ (in_Ed w h)) hown hK hP 0 rfl rfl 1 (by decide) (hts _ (List.mem_cons_of_mem _ tw_41)) (fun _ h9 => h9) rfl d_Ed_nearest_21 ?_
  refine ed_isub hx hb d_Ed_nearest_24 ?_
  refine lv_aload_n hx hb d_Ed_nearest_25 rfl (lv_at hl 0 rfl) ?_
  refine va_get (D := D) (ci := 1) (v := .int (iI (zl))) (C := R_Ed) (T := T_Ed) (N := 5) hx hb hts (fun w h => List.mem_cons_of_mem _ (in_Ed w h)) hown hK hP 0 rfl rfl 3 (by decide) (hts _ (List.mem_cons_of_mem _ tw_43)) (fun _ h9 => h9) rfl d_Ed_nearest_26 ?_
  refine ed_pc (pc' := 29) rfl ?_
  refine lv_iload_n hx hb d_Ed_nearest_29 rfl (lv_at hl 1 rfl) ?_
  refine c_fr (ra := ad kf) (va_runS (As := [.int (iI (zz))]) (rest := [.int (iI (zl)), .int (iI ((pt) - (((dl X : Nat) : Int)))), .ref x]) ⟨hx, hb, hml, hown, hts⟩ (c_Ed_formatOf l D cB cI cJ t5 ad zz kf hzz hkf9 H.size) (va_cwS 1 hts (gS tw_103 tw_104 tw_1 tw_105) rfl rfl rfl (by decide +kernel) ⟨Nat.le_of_ble_eq_true rfl, Nat.le_of_ble_eq_true rfl⟩) ⟨c_blind (eX_X t5 ad), fun U hU hW => c_pre (wc := []) (eX_X t5 ad) hE hK hP hD hS hA [] rfl (by decide) U hU hW⟩ rfl rfl hl.1 rfl (lv_room (Nat.le_of_ble_eq_true rfl)) d_Ed_nearest_30 ⟨Nat.le_of_ble_eq_true rfl, Nat.le_of_ble_eq_true rfl⟩) hP hD hS hA [0, 1, 2, 3] rfl (by decide) (fun H locs hP hD hS => ?_)
  have hP : va_P D ecl [(x, .inr (1, [.ref dg, .int (iI (((dl X : Nat) : Int))), .int (iI (pt)), .int (iI (zl)), .ref q])), (q, .inr (0, [.ref pa, .int (iI ((s2 : Int)))])), (pa, .inl (cI, 306, .inl f2)), (dg, .inl (cB, 1200, .inl g))] H := hP
  have hD : va_D A [(x, .inr (1, [.ref dg, .int (iI (((dl X : Nat) : Int))), .int (iI (pt)), .int (iI (zl)), .ref q])), (q, .inr (0, [.ref pa, .int (iI ((s2 : Int)))])), (pa, .inl (cI, 306, .inl f2)), (dg, .inl (cB, 1200, .inl g))] := hD
  refine c_fl (wc := [(x, .inr (1, [.ref dg, .int (iI (((dl X : Nat) : Int))), .int (iI (pt)), .int (iI (zl)), .ref q])), (dg, .inl (cB, 1200, .inl g)), (q, .inr (0, [.ref pa, .int (iI ((s2 : Int)))])), (pa, .inl (cI, 306, .inl f2))]) (wr := []) (va_runV (C := "ExactDigits") (As := [.int (iI ((pt) - (((dl X : Nat) : Int)))), .int (iI (zl)), .ref (ad kf)]) (rest := []) ⟨hx, hb, hml, hown, hts⟩ (c_Ed_nearestToScratch l D cB cI cJ t5 ad x dg q pa g f2 s2 X kf ((dl X : Nat) : Int) pt zl (pt - ((dl X : Nat) : Int)) zl hkf hok hX12 (by omega) hzl H.size) (cwV 3 hts (gV tw_110 tw_112 ts_2 tw_1 tw_113) rfl rfl rfl (by decide +kernel) ⟨Nat.le_of_ble_eq_true rfl, Nat.le_of_ble_eq_true rfl⟩) ⟨c_blind (eX_X t5 ad), va_recv (ci := 1) (q0 := 0) hK hP rfl rfl, fun U hU hW => c_pre (wc := [(x, .inr (1, [.ref dg, .int (iI (((dl X : Nat) : Int))), .int (iI (pt)), .int (iI (zl)), .ref q])), (dg, .inl (cB, 1200, .inl g)), (q, .inr (0, [.ref pa, .int (iI ((s2 : Int)))])), (pa, .inl (cI, 306, .inl f2))]) (eX_X t5 ad) hE hK hP hD hS hA [0, 3, 1, 2] rfl (by decide) U hU hW⟩ rfl rfl hl.1 rfl (lv_room (Nat.le_of_ble_eq_true rfl)) d_Ed_nearest_33 ⟨Nat.le_of_ble_eq_true rfl, Nat.le_of_ble_eq_true rfl⟩) hP hD hS hA [0, 3, 1, 2] [] rfl rfl (by decide) (by decide) (fun r u H locs hp hP hD hS => ?_)
  obtain ⟨⟨rn, rfl, hNR⟩, f3, zs3, rfl⟩ := hp
  have hP : va_P D ecl [(x, .inr (1, [.ref dg, .int (iI (((dl X : Nat) : Int))), .int (iI (pt)), .int (iI (zl)), .ref q])), (dg, .inl (cB, 1200, .inl g)), (q, .inr (0, [.ref pa, .int (iI (zs3))])), (pa, .inl (cI, 306, .inl f3))] H := hP
  have hD : va_D A [(x, .inr (1, [.ref dg, .int (iI (((dl X : Nat) : Int))), .int (iI (pt)), .int (iI (zl)), .ref q])), (dg, .inl (cB, 1200, .inl g)), (q, .inr (0, [.ref pa, .int (iI (zs3))])), (pa, .inl (cI, 306, .inl f3))] := hD
  exact W.lret (v := (jI ((rn : Int)))) hx hb hr (fun t9 ht9 hW9 => ⟨⟨(jI ((rn : Int))), [(x, .inr (1, [.ref dg, .int (iI (((dl X : Nat) : Int))), .int (iI (pt)), .int (iI (zl)), .ref q])), (dg, .inl (cB, 1200, .inl g)), (q, .inr (0, [.ref pa, .int (iI (zs3))])), (pa, .inl (cI, 306, .inl f3))], rfl, ⟨⟨rn, rfl, hNR⟩, f3, zs3, rfl⟩, by rw [ht9]; exact hP, hD⟩, hS.F ht9⟩) hS.2.2 d_Ed_nearest_36
