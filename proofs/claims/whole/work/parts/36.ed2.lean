set_option maxHeartbeats 4000000 in
set_option maxRecDepth 100000 in
theorem c_Ed_giveScratch (l : Launch) (D : va_G) (cB cI cJ : ClassId) (t5 : Nat) (ad : Nat → Nat) (x dg q pa : Nat) (g f : Nat → Int32) (sz V : Nat) (zc pt zl ex : Int) (hex : -10000000 ≤ ex ∧ ex ≤ 10000000) (hV : nt_ok f sz V) : c_V l m_Ed_giveScratch (Cond.code m_Ed_giveScratch b_Ed_giveScratch 3 none :: gw) (rm_ 3 71) (eX t5 ad) D ecl (tyS cB cI cJ) [.ref x, .int (iI (ex))] [(x, .inr (1, [.ref dg, .int (iI (zc)), .int (iI (pt)), .int (iI (zl)), .ref q])), (dg, .inl (cB, 1200, .inl g)), (q, .inr (0, [.ref pa, .int (iI ((sz : Int)))])), (pa, .inl (cI, 306, .inl f))] (fun u => ∃ g' : Nat → Int32, nm_ok g' (gvD V) ∧ u = [(x, .inr (1, [.ref dg, .int (iI (((dl (gvD V) : Nat) : Int))), .int (iI (if V = 0 then 0 else ((dl V : Nat) : Int) + ex)), .int (iI (hdb V (((dl V : Nat) : Int) - 1200))), .ref q])), (dg, .inl (cB, 1200, .inl g')), (q, .inr (0, [.ref pa, .int (iI ((sz : Int)))])), (pa, .inl (cI, 306, .inl f))]) 0 0 := by
  intro sz0
  refine Met.ofW (cc := b_Ed_giveScratch) (maxL := 3) (ret := none) (by decide) rfl ?_
  intro p e s m args below meth c s₁ B hml hv
  obtain ⟨rfl, hsz, hP, hK, hD0, hE⟩ := hv
  have hx := B.exec
  have hb := B.bytes
  have hr := B.returns
  have hts := atoms_spec (ws := Cond.code m_Ed_giveScratch b_Ed_giveScratch 3 none :: gw) B.pre
  have hown : s.vm.findClass R_Ed = some m.cls := findClass_of_methodNamed B.named
  have hlocks := B.notSynchronized
  subst hsz
  have hD := hD0.self (sz := s.heap.size)
  generalize hAe : va_A [(x, .inr (1, [.ref dg, .int (iI (zc)), .int (iI (pt)), .int (iI (zl)), .ref q])), (dg, .inl (cB, 1200, .inl g)), (q, .inr (0, [.ref pa, .int (iI ((sz : Int)))])), (pa, .inl (cI, 306, .inl f))] s.heap.size = A at hD hE ⊢
  have hA : ∀ q : Nat, s.heap.size ≤ q → A q := fun q h => by rw [← hAe]; exact Or.inr h
  have hS : va_S A s.heap s.heap [] := va_S.rf
  have hl := lv_entry ([.ref x, .int (iI (ex))]) (n := 3) (Nat.le_of_ble_eq_true rfl)
  rw [lg_entry_eq]
  generalize (lg_sl ([.ref x, .int (iI (ex))]) ++ List.replicate (3 - (lg_sl ([.ref x, .int (iI (ex))])).length) Slot.unset).toArray = ls at hl ⊢
  have hl : lv_has ls 3 [(0, .ref x), (1, .int (iI (ex)))] := hl
  have hdl : dl V ≤ 2754 := by
    have hV2 := hV.2.1
    rw [pB_10] at hV2
    exact dl_bound (Nat.lt_of_lt_of_le hV2 (p10_le (by have := hV.1; omega)))
  refine lv_aload_n hx hb d_Ed_giveScratch_0 rfl (lv_at hl 0 rfl) ?_
  refine va_get (D := D) (ci := 1) (v := .ref q) (C := R_Ed) (T := T_Ed) (N := 5) hx hb hts (fun w h => List.mem_cons_of_mem _ (in_Ed w h)) hown hK hP 0 rfl rfl 4 (by decide) (hts _ (List.mem_cons_of_mem _ tw_44)) (fun _ h9 => h9) rfl d_Ed_giveScratch_1 ?_
  refine c_fi (wc := [(q, .inr (0, [.ref pa, .int (iI ((sz : Int)))])), (pa, .inl (cI, 306, .inl f))]) (wr := [(x, .inr (1, [.ref dg, .int (iI (zc)), .int (iI (pt)), .int (iI (zl)), .ref q])), (dg, .inl (cB, 1200, .inl g))]) (va_runV (C := "ExactDigits$Natural") (As := []) (rest := []) ⟨hx, hb, hml, hown, hts⟩ (c_Na_length l D cB cI cJ t5 ad q pa f sz V hV s.heap.size) (cwV 0 hts (gV tw_70 tw_71 tw_72 tw_2 tw_73) rfl rfl rfl (by decide +kernel) ⟨Nat.le_of_ble_eq_true rfl, Nat.le_of_ble_eq_true rfl⟩) ⟨c_blind (eX_X t5 ad), va_recv (ci := 0) (q0 := 2) hK hP rfl rfl, fun U hU hW => c_pre (wc := [(q, .inr (0, [.ref pa, .int (iI ((sz : Int)))])), (pa, .inl (cI, 306, .inl f))]) (eX_X t5 ad) hE hK hP hD hS hA [2, 3] rfl (by decide) U hU hW⟩ rfl rfl hl.1 rfl (lv_room (Nat.le_of_ble_eq_true rfl)) d_Ed_giveScratch_4 ⟨Nat.le_of_ble_eq_true rfl, Nat.le_of_ble_eq_true rfl⟩) hP hD hS hA [2, 3] [0, 1] rfl rfl (by decide) (by decide) (fun r u H locs hp hP hD hS => ?_)
  obtain ⟨rfl, rfl⟩ := hp
  have hP : va_P D ecl [(x, .inr (1, [.ref dg, .int (iI (zc)), .int (iI (pt)), .int (iI (zl)), .ref q])), (dg, .inl (cB, 1200, .inl g)), (q, .inr (0, [.ref pa, .int (iI ((sz : Int)))])), (pa, .inl (cI, 306, .inl f))] H := hP
  have hD : va_D A [(x, .inr (1, [.ref dg, .int (iI (zc)), .int (iI (pt)), .int (iI (zl)), .ref q])), (dg, .inl (cB, 1200, .inl g)), (q, .inr (0, [.ref pa, .int (iI ((sz : Int)))])), (pa, .inl (cI, 306, .inl f))] := hD
  refine lv_istore_n hx hb d_Ed_giveScratch_7 rfl hl (by decide) rfl (fun ls hl => ?_)
  have hl : lv_has ls 3 [(2, .int (iI (((dl V : Nat) : Int)))), (0, .ref x), (1, .int (iI (ex)))] := hl
  refine lv_aload_n hx hb d_Ed_giveScratch_8 rfl (lv_at hl 1 rfl) ?_
  refine lv_aload_n hx hb d_Ed_giveScratch_9 rfl (lv_at hl 1 rfl) ?_
  refine va_get (D := D) (ci := 1) (v := .ref q) (C := R_Ed) (T := T_Ed) (N := 5) hx hb hts (fun w h => List.mem_cons_of_mem _ (in_Ed w h)) hown hK hP 0 rfl rfl 4 (by decide) (hts _ (List.mem_cons_of_mem _ tw_44)) (fun _ h9 => h9) rfl d_Ed_giveScratch_10 ?_
  refine ed_pc (pc' := 13) rfl ?_
  refine lv_aload_n hx hb d_Ed_giveScratch_13 rfl (lv_at hl 1 rfl) ?_
  refine va_get (D := D) (ci := 1) (v := .ref dg) (C := R_Ed) (T := T_Ed) (N := 5) hx hb hts (fun w h => List.mem_cons_of_mem _ (in_Ed w h)) hown hK hP 0 rfl rfl 0 (by decide) (hts _ (List.mem_cons_of_mem _ tw_40)) (fun _ h9 => h9) rfl d_Ed_giveScratch_14 ?_
  refine c_fi (wc := [(q, .inr (0, [.ref pa, .int (iI ((sz : Int)))])), (pa, .inl (cI, 306, .inl f)), (dg, .inl (cB, 1200, .inl g))]) (wr := [(x, .inr (1, [.ref dg, .int (iI (zc)), .int (iI (pt)), .int (iI (zl)), .ref q]))]) (va_runV (C := "ExactDigits$Natural") (As := [.ref dg]) (rest := [.ref x]) ⟨hx, hb, hml, hown, hts⟩ (c_Na_copyDigits l D cB cI cJ t5 ad q pa dg f g sz V hV H.size) (cwV 1 hts (gV tw_74 tw_75 tw_76 tw_2 tw_77) rfl rfl rfl (by decide +kernel) ⟨Nat.le_of_ble_eq_true rfl, Nat.le_of_ble_eq_true rfl⟩) ⟨c_blind (eX_X t5 ad), va_recv (ci := 0) (q0 := 2) hK hP rfl rfl, fun U hU hW => c_pre (wc := [(q, .inr (0, [.ref pa, .int (iI ((sz : Int)))])), (pa, .inl (cI, 306, .inl f)), (dg, .inl (cB, 1200, .inl g))]) (eX_X t5 ad) hE hK hP hD hS hA [2, 3, 1] rfl (by decide) U hU hW⟩ rfl rfl hl.1 rfl (lv_room (Nat.le_of_ble_eq_true rfl)) d_Ed_giveScratch_17 ⟨Nat.le_of_ble_eq_true rfl, Nat.le_of_ble_eq_true rfl⟩) hP hD hS hA [2, 3, 1] [0] rfl rfl (by decide) (by decide) (fun r u H locs hp hP hD hS => ?_)
  obtain ⟨rfl, g', rfl, hcp⟩ := hp
  have hP : va_P D ecl [(x, .inr (1, [.ref dg, .int (iI (zc)), .int (iI (pt)), .int (iI (zl)), .ref q])), (q, .inr (0, [.ref pa, .int (iI ((sz : Int)))])), (pa, .inl (cI, 306, .inl f)), (dg, .inl (cB, 1200, .inl g'))] H := hP
  have hD : va_D A [(x, .inr (1, [.ref dg, .int (iI (zc)), .int (iI (pt)), .int (iI (zl)), .ref q])), (q, .inr (0, [.ref pa, .int (iI ((sz : Int)))])), (pa, .inl (cI, 306, .inl f)), (dg, .inl (cB, 1200, .inl g'))] := hD
  refine va_put (D := D) (ci := 1) (v := .int (iI (hdb V (((dl V : Nat) : Int) - 1200)))) (ty := .boolean) (C := R_Ed) (T := T_Ed) (N := 5) hx hb hts (fun w h => List.mem_cons_of_mem _ (in_Ed w h)) y_Ed t_Ed n_Ed hown hK hP hD hS 0 rfl rfl 3 (by decide) (hts _ (List.mem_cons_of_mem _ tw_43)) (fun _ h9 => h9) rfl (by decide +kernel) (hdb_nar _ _) (hdb_fit _ _) (Nat.le_of_ble_eq_true rfl) d_Ed_giveScratch_20 (fun H locs hP hD hS => ?_)
  have hP : va_P D ecl [(x, .inr (1, [.ref dg, .int (iI (zc)), .int (iI (pt)), .int (iI (hdb V (((dl V : Nat) : Int) - 1200))), .ref q])), (q, .inr (0, [.ref pa, .int (iI ((sz : Int)))])), (pa, .inl (cI, 306, .inl f)), (dg, .inl (cB, 1200, .inl g'))] H := hP
  have hD : va_D A [(x, .inr (1, [.ref dg, .int (iI (zc)), .int (iI (pt)), .int (iI (hdb V (((dl V : Nat) : Int) - 1200))), .ref q])), (q, .inr (0, [.ref pa, .int (iI ((sz : Int)))])), (pa, .inl (cI, 306, .inl f)), (dg, .inl (cB, 1200, .inl g'))] := hD
  refine lv_aload_n hx hb d_Ed_giveScratch_23 rfl (lv_at hl 1 rfl) ?_
  refine lv_iload_n hx hb d_Ed_giveScratch_24 rfl (lv_at hl 0 rfl) ?_
  refine lv_sipush (v := iI 1200) hx hb d_Ed_giveScratch_25 (by decide +kernel) ?_
  refine ed_min hx hb (hml.trans hl.1.symm) hown (hts _ (List.mem_cons_of_mem _ tw_86)) (hts _ (List.mem_cons_of_mem _ tw_84)) (hts _ (List.mem_cons_of_mem _ tw_6)) (hts _ (List.mem_cons_of_mem _ tw_85)) (Nat.le_of_ble_eq_true rfl) (Nat.le_of_ble_eq_true rfl) (Nat.le_of_ble_eq_true rfl) (Nat.le_of_ble_eq_true rfl) (by omega) (by omega) d_Ed_giveScratch_28 ?_
  refine ed_tz (y := ((dl (V / 10 ^ (dl V - 1200)) : Nat) : Int)) (by rw [gv_dl]; omega) ?_
  refine ed_pc (pc' := 31) rfl ?_
  refine va_put (D := D) (ci := 1) (v := .int (iI (((dl (V / 10 ^ (dl V - 1200)) : Nat) : Int)))) (ty := .int) (C := R_Ed) (T := T_Ed) (N := 5) hx hb hts (fun w h => List.mem_cons_of_mem _ (in_Ed w h)) y_Ed t_Ed n_Ed hown hK hP hD hS 0 rfl rfl 1 (by decide) (hts _ (List.mem_cons_of_mem _ tw_41)) (fun _ h9 => h9) rfl (by decide +kernel) rfl rfl (Nat.le_of_ble_eq_true rfl) d_Ed_giveScratch_31 (fun H locs hP hD hS => ?_)
  have hP : va_P D ecl [(x, .inr (1, [.ref dg, .int (iI (((dl (V / 10 ^ (dl V - 1200)) : Nat) : Int))), .int (iI (pt)), .int (iI (hdb V (((dl V : Nat) : Int) - 1200))), .ref q])), (q, .inr (0, [.ref pa, .int (iI ((sz : Int)))])), (pa, .inl (cI, 306, .inl f)), (dg, .inl (cB, 1200, .inl g'))] H := hP
  have hD : va_D A [(x, .inr (1, [.ref dg, .int (iI (((dl (V / 10 ^ (dl V - 1200)) : Nat) : Int))), .int (iI (pt)), .int (iI (hdb V (((dl V : Nat) : Int) - 1200))), .ref q])), (q, .inr (0, [.ref pa, .int (iI ((sz : Int)))])), (pa, .inl (cI, 306, .inl f)), (dg, .inl (cB, 1200, .inl g'))] := hD
  refine lv_aload_n hx hb d_Ed_giveScratch_34 rfl (lv_at hl 1 rfl) ?_
  refine lv_iload_n hx hb d_Ed_giveScratch_35 rfl (lv_at hl 0 rfl) ?_
  refine lv_iload_n hx hb d_Ed_giveScratch_36 rfl (lv_at hl 2 rfl) ?_
  refine ed_iadd hx hb d_Ed_giveScratch_37 ?_
  refine va_put (D := D) (ci := 1) (v := .int (iI ((((dl V : Nat) : Int)) + (ex)))) (ty := .int) (C := R_Ed) (T := T_Ed) (N := 5) hx hb hts (fun w h => List.mem_cons_of_mem _ (in_Ed w h)) y_Ed t_Ed n_Ed hown hK hP hD hS 0 rfl rfl 2 (by decide) (hts _ (List.mem_cons_of_mem _ tw_42)) (fun _ h9 => h9) rfl (by decide +kernel) rfl rfl (Nat.le_of_ble_eq_true rfl) d_Ed_giveScratch_38 (fun H locs hP hD hS => ?_)
  have hP : va_P D ecl [(x, .inr (1, [.ref dg, .int (iI (((dl (V / 10 ^ (dl V - 1200)) : Nat) : Int))), .int (iI ((((dl V : Nat) : Int)) + (ex))), .int (iI (hdb V (((dl V : Nat) : Int) - 1200))), .ref q])), (q, .inr (0, [.ref pa, .int (iI ((sz : Int)))])), (pa, .inl (cI, 306, .inl f)), (dg, .inl (cB, 1200, .inl g'))] H := hP
  have hD : va_D A [(x, .inr (1, [.ref dg, .int (iI (((dl (V / 10 ^ (dl V - 1200)) : Nat) : Int))), .int (iI ((((dl V : Nat) : Int)) + (ex))), .int (iI (hdb V (((dl V : Nat) : Int) - 1200))), .ref q])), (q, .inr (0, [.ref pa, .int (iI ((sz : Int)))])), (pa, .inl (cI, 306, .inl f)), (dg, .inl (cB, 1200, .inl g'))] := hD
  refine lv_aload_n hx hb d_Ed_giveScratch_41 rfl (lv_at hl 1 rfl) ?_
  refine c_fv (wc := [(x, .inr (1, [.ref dg, .int (iI (((dl (V / 10 ^ (dl V - 1200)) : Nat) : Int))), .int (iI ((((dl V : Nat) : Int)) + (ex))), .int (iI (hdb V (((dl V : Nat) : Int) - 1200))), .ref q])), (dg, .inl (cB, 1200, .inl g'))]) (wr := [(q, .inr (0, [.ref pa, .int (iI ((sz : Int)))])), (pa, .inl (cI, 306, .inl f))]) (va_runV (C := "ExactDigits") (As := []) (rest := []) ⟨hx, hb, hml, hown, hts⟩ (c_Ed_dropZerosBehind l D cB cI cJ t5 ad x dg q g' (((dl V : Nat) : Int) + (ex)) (hdb V (((dl V : Nat) : Int) - 1200)) (V / 10 ^ (dl V - 1200)) (by rw [gv_dl]; omega) (by rw [gv_dl]; exact cp_dg hcp) H.size) (cwV 0 hts (gV tw_87 tw_89 ts_1 tw_1 tw_90) rfl rfl rfl (by decide +kernel) ⟨Nat.le_of_ble_eq_true rfl, Nat.le_of_ble_eq_true rfl⟩) ⟨c_blind (eX_X t5 ad), va_recv (ci := 1) (q0 := 0) hK hP rfl rfl, fun U hU hW => c_pre (wc := [(x, .inr (1, [.ref dg, .int (iI (((dl (V / 10 ^ (dl V - 1200)) : Nat) : Int))), .int (iI ((((dl V : Nat) : Int)) + (ex))), .int (iI (hdb V (((dl V : Nat) : Int) - 1200))), .ref q])), (dg, .inl (cB, 1200, .inl g'))]) (eX_X t5 ad) hE hK hP hD hS hA [0, 3] rfl (by decide) U hU hW⟩ rfl rfl hl.1 rfl (lv_room (Nat.le_of_ble_eq_true rfl)) d_Ed_giveScratch_42 ⟨Nat.le_of_ble_eq_true rfl, Nat.le_of_ble_eq_true rfl⟩) hP hD hS hA [0, 3] [1, 2] rfl rfl (by decide) (by decide) (fun u H locs hp hP hD hS => ?_)
  obtain ⟨hdz, rfl⟩ := hp
  have hP : va_P D ecl [(q, .inr (0, [.ref pa, .int (iI ((sz : Int)))])), (pa, .inl (cI, 306, .inl f)), (x, .inr (1, [.ref dg, .int (iI (((dl (rz (V / 10 ^ (dl V - 1200))) : Nat) : Int))), .int (iI (if V / 10 ^ (dl V - 1200) = 0 then 0 else ((dl V : Nat) : Int) + (ex))), .int (iI (hdb V (((dl V : Nat) : Int) - 1200))), .ref q])), (dg, .inl (cB, 1200, .inl g'))] H := hP
  have hD : va_D A [(q, .inr (0, [.ref pa, .int (iI ((sz : Int)))])), (pa, .inl (cI, 306, .inl f)), (x, .inr (1, [.ref dg, .int (iI (((dl (rz (V / 10 ^ (dl V - 1200))) : Nat) : Int))), .int (iI (if V / 10 ^ (dl V - 1200) = 0 then 0 else ((dl V : Nat) : Int) + (ex))), .int (iI (hdb V (((dl V : Nat) : Int) - 1200))), .ref q])), (dg, .inl (cB, 1200, .inl g'))] := hD
  have hP := hP.sub (ws' := [(x, .inr (1, [.ref dg, .int (iI (((dl (rz (V / 10 ^ (dl V - 1200))) : Nat) : Int))), .int (iI (if V / 10 ^ (dl V - 1200) = 0 then 0 else ((dl V : Nat) : Int) + (ex))), .int (iI (hdb V (((dl V : Nat) : Int) - 1200))), .ref q])), (dg, .inl (cB, 1200, .inl g')), (q, .inr (0, [.ref pa, .int (iI ((sz : Int)))])), (pa, .inl (cI, 306, .inl f))]) [2, 3, 0, 1] rfl
  have hD := hD.sub (ws' := [(x, .inr (1, [.ref dg, .int (iI (((dl (rz (V / 10 ^ (dl V - 1200))) : Nat) : Int))), .int (iI (if V / 10 ^ (dl V - 1200) = 0 then 0 else ((dl V : Nat) : Int) + (ex))), .int (iI (hdb V (((dl V : Nat) : Int) - 1200))), .ref q])), (dg, .inl (cB, 1200, .inl g')), (q, .inr (0, [.ref pa, .int (iI ((sz : Int)))])), (pa, .inl (cI, 306, .inl f))]) [2, 3, 0, 1] (by decide) rfl
  exact W.vret hx hb hr (fun t9 ht9 hW9 => ⟨⟨[(x, .inr (1, [.ref dg, .int (iI (((dl (rz (V / 10 ^ (dl V - 1200))) : Nat) : Int))), .int (iI (if V / 10 ^ (dl V - 1200) = 0 then 0 else ((dl V : Nat) : Int) + (ex))), .int (iI (hdb V (((dl V : Nat) : Int) - 1200))), .ref q])), (dg, .inl (cB, 1200, .inl g')), (q, .inr (0, [.ref pa, .int (iI ((sz : Int)))])), (pa, .inl (cI, 306, .inl f))], rfl, ⟨g', ⟨gv_le V, gv_rz V, hdz⟩, by simp only [gv_0]; rfl⟩, by rw [ht9]; exact hP, hD⟩, hS.F ht9⟩) hS.2.2 d_Ed_giveScratch_45
set_option maxHeartbeats 4000000 in
set_option maxRecDepth 100000 in
theorem c_Ed_whole (l : Launch) (D : va_G) (cB cI cJ : ClassId) (t5 : Nat) (ad : Nat → Nat) (x dg q pa : Nat) (g f : Nat → Int32) (zs : Int) (zc pt zl : Int) (V : Nat) (hV : V < 2 ^ 64) : c_I l m_Ed_whole (Cond.code m_Ed_whole b_Ed_whole 3 (some .int) :: gw) (rm_ 4 93) (eX t5 ad) D ecl (tyS cB cI cJ) [.ref x, .long (lN V)] [(x, .inr (1, [.ref dg, .int (iI (zc)), .int (iI (pt)), .int (iI (zl)), .ref q])), (dg, .inl (cB, 1200, .inl g)), (q, .inr (0, [.ref pa, .int (iI (zs))])), (pa, .inl (cI, 306, .inl f))] (fun r u => r = iI ((dl (gvD V) : Nat) : Int) ∧ ∃ (g' f' : Nat → Int32) (zs' : Int), nm_ok g' (gvD V) ∧ u = [(x, .inr (1, [.ref dg, .int (iI (((dl (gvD V) : Nat) : Int))), .int (iI (if V = 0 then 0 else ((dl V : Nat) : Int) + 0)), .int (iI (hdb V (((dl V : Nat) : Int) - 1200))), .ref q])), (dg, .inl (cB, 1200, .inl g')), (q, .inr (0, [.ref pa, .int (iI (zs'))])), (pa, .inl (cI, 306, .inl f'))]) 0 0 := by
  intro sz0
  refine Met.ofW (cc := b_Ed_whole) (maxL := 3) (ret := (some .int)) (by decide) rfl ?_
  intro p e s m args below meth c s₁ B hml hv
  obtain ⟨rfl, hsz, hP, hK, hD0, hE⟩ := hv
  have hx := B.exec
  have hb := B.bytes
  have hr := B.returns
  have hts := atoms_spec (ws := Cond.code m_Ed_whole b_Ed_whole 3 (some .int) :: gw) B.pre
  have hown : s.vm.findClass R_Ed = some m.cls := findClass_of_methodNamed B.named
  have hlocks := B.notSynchronized
  subst hsz
  have hD := hD0.self (sz := s.heap.size)
  generalize hAe : va_A [(x, .inr (1, [.ref dg, .int (iI (zc)), .int (iI (pt)), .int (iI (zl)), .ref q])), (dg, .inl (cB, 1200, .inl g)), (q, .inr (0, [.ref pa, .int (iI (zs))])), (pa, .inl (cI, 306, .inl f))] s.heap.size = A at hD hE ⊢
  have hA : ∀ q : Nat, s.heap.size ≤ q → A q := fun q h => by rw [← hAe]; exact Or.inr h
  have hS : va_S A s.heap s.heap [] := va_S.rf
  have hl := lv_entry ([.ref x, .long (lN V)]) (n := 3) (Nat.le_of_ble_eq_true rfl)
  rw [lg_entry_eq]
  generalize (lg_sl ([.ref x, .long (lN V)]) ++ List.replicate (3 - (lg_sl ([.ref x, .long (lN V)])).length) Slot.unset).toArray = ls at hl ⊢
  have hl : lv_has ls 3 [(0, .ref x), (1, .long (lN V))] := hl
  refine lv_aload_n hx hb d_Ed_whole_0 rfl (lv_at hl 0 rfl) ?_
  refine va_get (D := D) (ci := 1) (v := .ref q) (C := R_Ed) (T := T_Ed) (N := 5) hx hb hts (fun w h => List.mem_cons_of_mem _ (in_Ed w h)) hown hK hP 0 rfl rfl 4 (by decide) (hts _ (List.mem_cons_of_mem _ tw_44)) (fun _ h9 => h9) rfl d_Ed_whole_1 ?_
  refine lv_lload_n hx hb d_Ed_whole_4 rfl (lv_at hl 1 rfl) ?_
  refine c_fv (wc := [(q, .inr (0, [.ref pa, .int (iI (zs))])), (pa, .inl (cI, 306, .inl f))]) (wr := [(x, .inr (1, [.ref dg, .int (iI (zc)), .int (iI (pt)), .int (iI (zl)), .ref q])), (dg, .inl (cB, 1200, .inl g))]) (va_runV (C := "ExactDigits$Natural") (As := [.long (lN V)]) (rest := []) ⟨hx, hb, hml, hown, hts⟩ (c_Na_setUnsigned l D cB cI cJ t5 ad q pa f zs V hV s.heap.size) (cwV 1 hts (gV tw_60 tw_61 tw_62 tw_2 tw_63) rfl rfl rfl (by decide +kernel) ⟨Nat.le_of_ble_eq_true rfl, Nat.le_of_ble_eq_true rfl⟩) ⟨c_blind (eX_X t5 ad), va_recv (ci := 0) (q0 := 2) hK hP rfl rfl, fun U hU hW => c_pre (wc := [(q, .inr (0, [.ref pa, .int (iI (zs))])), (pa, .inl (cI, 306, .inl f))]) (eX_X t5 ad) hE hK hP hD hS hA [2, 3] rfl (by decide) U hU hW⟩ rfl rfl hl.1 rfl (lv_room (Nat.le_of_ble_eq_true rfl)) d_Ed_whole_5 ⟨Nat.le_of_ble_eq_true rfl, Nat.le_of_ble_eq_true rfl⟩) hP hD hS hA [2, 3] [0, 1] rfl rfl (by decide) (by decide) (fun u H locs hp hP hD hS => ?_)
  obtain ⟨f2, sz2, rfl, hok⟩ := hp
  have hP : va_P D ecl [(x, .inr (1, [.ref dg, .int (iI (zc)), .int (iI (pt)), .int (iI (zl)), .ref q])), (dg, .inl (cB, 1200, .inl g)), (q, .inr (0, [.ref pa, .int (iI ((sz2 : Int)))])), (pa, .inl (cI, 306, .inl f2))] H := hP
  have hD : va_D A [(x, .inr (1, [.ref dg, .int (iI (zc)), .int (iI (pt)), .int (iI (zl)), .ref q])), (dg, .inl (cB, 1200, .inl g)), (q, .inr (0, [.ref pa, .int (iI ((sz2 : Int)))])), (pa, .inl (cI, 306, .inl f2))] := hD
  refine lv_aload_n hx hb d_Ed_whole_8 rfl (lv_at hl 0 rfl) ?_
  refine lv_iconst (v := iI 0) hx hb d_Ed_whole_9 rfl ?_
  refine c_fv (wc := [(x, .inr (1, [.ref dg, .int (iI (zc)), .int (iI (pt)), .int (iI (zl)), .ref q])), (dg, .inl (cB, 1200, .inl g)), (q, .inr (0, [.ref pa, .int (iI ((sz2 : Int)))])), (pa, .inl (cI, 306, .inl f2))]) (wr := []) (va_runV (C := "ExactDigits") (As := [.int (iI (0))]) (rest := []) ⟨hx, hb, hml, hown, hts⟩ (c_Ed_giveScratch l D cB cI cJ t5 ad x dg q pa g f2 sz2 V zc pt zl 0 (by omega) hok H.size) (cwV 1 hts (gV tw_66 tw_68 ts_0 tw_1 tw_69) rfl rfl rfl (by decide +kernel) ⟨Nat.le_of_ble_eq_true rfl, Nat.le_of_ble_eq_true rfl⟩) ⟨c_blind (eX_X t5 ad), va_recv (ci := 1) (q0 := 0) hK hP rfl rfl, fun U hU hW => c_pre (wc := [(x, .inr (1, [.ref dg, .int (iI (zc)), .int (iI (pt)), .int (iI (zl)), .ref q])), (dg, .inl (cB, 1200, .inl g)), (q, .inr (0, [.ref pa, .int (iI ((sz2 : Int)))])), (pa, .inl (cI, 306, .inl f2))]) (eX_X t5 ad) hE hK hP hD hS hA [0, 1, 2, 3] rfl (by decide) U hU hW⟩ rfl rfl hl.1 rfl (lv_room (Nat.le_of_ble_eq_true rfl)) d_Ed_whole_10 ⟨Nat.le_of_ble_eq_true rfl, Nat.le_of_ble_eq_true rfl⟩) hP hD hS hA [0, 1, 2, 3] [] rfl rfl (by decide) (by decide) (fun u H locs hp hP hD hS => ?_)
  obtain ⟨g2, hnm, rfl⟩ := hp
  have hP : va_P D ecl [(x, .inr (1, [.ref dg, .int (iI (((dl (gvD V) : Nat) : Int))), .int (iI (if V = 0 then 0 else ((dl V : Nat) : Int) + 0)), .int (iI (hdb V (((dl V : Nat) : Int) - 1200))), .ref q])), (dg, .inl (cB, 1200, .inl g2)), (q, .inr (0, [.ref pa, .int (iI ((sz2 : Int)))])), (pa, .inl (cI, 306, .inl f2))] H := hP
  have hD : va_D A [(x, .inr (1, [.ref dg, .int (iI (((dl (gvD V) : Nat) : Int))), .int (iI (if V = 0 then 0 else ((dl V : Nat) : Int) + 0)), .int (iI (hdb V (((dl V : Nat) : Int) - 1200))), .ref q])), (dg, .inl (cB, 1200, .inl g2)), (q, .inr (0, [.ref pa, .int (iI ((sz2 : Int)))])), (pa, .inl (cI, 306, .inl f2))] := hD
  refine ed_pc (pc' := 13) rfl ?_
  refine lv_aload_n hx hb d_Ed_whole_13 rfl (lv_at hl 0 rfl) ?_
  refine va_get (D := D) (ci := 1) (v := .int (iI (((dl (gvD V) : Nat) : Int)))) (C := R_Ed) (T := T_Ed) (N := 5) hx hb hts (fun w h => List.mem_cons_of_mem _ (in_Ed w h)) hown hK hP 0 rfl rfl 1 (by decide) (hts _ (List.mem_cons_of_mem _ tw_41)) (fun _ h9 => h9) rfl d_Ed_whole_14 ?_
  exact W.iret (v := (iI (((dl (gvD V) : Nat) : Int)))) hx hb hr (fun t9 ht9 hW9 => ⟨⟨(iI (((dl (gvD V) : Nat) : Int))), [(x, .inr (1, [.ref dg, .int (iI (((dl (gvD V) : Nat) : Int))), .int (iI (if V = 0 then 0 else ((dl V : Nat) : Int) + 0)), .int (iI (hdb V (((dl V : Nat) : Int) - 1200))), .ref q])), (dg, .inl (cB, 1200, .inl g2)), (q, .inr (0, [.ref pa, .int (iI ((sz2 : Int)))])), (pa, .inl (cI, 306, .inl f2))], rfl, ⟨rfl, g2, f2, _, hnm, rfl⟩, by rw [ht9]; exact hP, hD⟩, hS.F ht9⟩) hS.2.2 d_Ed_whole_17
set_option maxHeartbeats 4000000 in
set_option maxRecDepth 100000 in
theorem c_Ed_digit (l : Launch) (D : va_G) (cB cI cJ : ClassId) (t5 : Nat) (ad : Nat → Nat) (x dg q : Nat) (g : Nat → Int32) (pt zl k : Int) (X : Nat) (hn : nm_ok g X) (hpt : -100000000 ≤ pt ∧ pt ≤ 100000000) (hk : iR k) : c_I l m_Ed_digit (Cond.code m_Ed_digit b_Ed_digit 4 (some .int) :: gw) (rm_ 0 0) (eX t5 ad) D ecl (tyS cB cI cJ) [.ref x, .int (iI (k))] [(x, .inr (1, [.ref dg, .int (iI (((dl X : Nat) : Int))), .int (iI (pt)), .int (iI (zl)), .ref q])), (dg, .inl (cB, 1200, .inl g))] (fun r u => r = iI (dgs X pt k) ∧ u = [(x, .inr (1, [.ref dg, .int (iI (((dl X : Nat) : Int))), .int (iI (pt)), .int (iI (zl)), .ref q])), (dg, .inl (cB, 1200, .inl g))]) 0 0 := by
  intro sz0
  refine Met.ofW (cc := b_Ed_digit) (maxL := 4) (ret := (some .int)) (by decide) rfl ?_
  intro p e s m args below meth c s₁ B hml hv
  obtain ⟨rfl, hsz, hP, hK, hD0, hE⟩ := hv
  have hx := B.exec
  have hb := B.bytes
  have hr := B.returns
  have hts := atoms_spec (ws := Cond.code m_Ed_digit b_Ed_digit 4 (some .int) :: gw) B.pre
  have hown : s.vm.findClass R_Ed = some m.cls := findClass_of_methodNamed B.named
  have hlocks := B.notSynchronized
  subst hsz
  have hD := hD0.self (sz := s.heap.size)
  generalize hAe : va_A [(x, .inr (1, [.ref dg, .int (iI (((dl X : Nat) : Int))), .int (iI (pt)), .int (iI (zl)), .ref q])), (dg, .inl (cB, 1200, .inl g))] s.heap.size = A at hD hE ⊢
  have hA : ∀ q : Nat, s.heap.size ≤ q → A q := fun q h => by rw [← hAe]; exact Or.inr h
  have hS : va_S A s.heap s.heap [] := va_S.rf
  have hl := lv_entry ([.ref x, .int (iI (k))]) (n := 4) (Nat.le_of_ble_eq_true rfl)
  rw [lg_entry_eq]
  generalize (lg_sl ([.ref x, .int (iI (k))]) ++ List.replicate (4 - (lg_sl ([.ref x, .int (iI (k))])).length) Slot.unset).toArray = ls at hl ⊢
  have hl : lv_has ls 4 [(0, .ref x), (1, .int (iI (k)))] := hl
  obtain ⟨hn1, hn2, hn3⟩ := hn
  refine lv_aload_n hx hb d_Ed_digit_0 rfl (lv_at hl 0 rfl) ?_
  refine va_get (D := D) (ci := 1) (v := .int (iI (pt))) (C := R_Ed) (T := T_Ed) (N := 5) hx hb hts (fun w h => List.mem_cons_of_mem _ (in_Ed w h)) hown hK hP 0 rfl rfl 2 (by decide) (hts _ (List.mem_cons_of_mem _ tw_42)) (fun _ h9 => h9) rfl d_Ed_digit_1 ?_
  refine ed_i2l hx hb d_Ed_digit_4 (by omega) ?_
  refine lv_iload_n hx hb d_Ed_digit_5 rfl (lv_at hl 1 rfl) ?_
  refine ed_i2l hx hb d_Ed_digit_6 (by omega) ?_
  refine ed_ladd hx hb d_Ed_digit_7 ?_
  refine lv_lstore_n hx hb d_Ed_digit_8 rfl hl (by decide) rfl (fun ls hl => ?_)
  have hl : lv_has ls 4 [(2, .long (jI ((pt) + (k)))), (0, .ref x), (1, .int (iI (k)))] := hl
  refine ed_pc (pc' := 9) rfl ?_
  refine lv_lload_n hx hb d_Ed_digit_9 rfl (lv_at hl 0 rfl) ?_
  refine lv_lconst (v := jI 0) hx hb d_Ed_digit_10 (by decide +kernel) ?_
  refine ed_lif_lt (tgt := 35) hx hb d_Ed_digit_11 d_Ed_digit_12 rfl (by omega) (by omega) (fun h_1 => ?_) (fun h_1 => ?_)
  · skip
    refine ed_pc (pc' := 35) rfl ?_
    have hd0 : dgs X pt k = 0 := by unfold dgs; rw [if_neg (by omega)]
    refine lv_iconst (v := iI 0) hx hb d_Ed_digit_35 rfl ?_
    exact W.iret (v := (iI (0))) hx hb hr (fun t9 ht9 hW9 => ⟨⟨(iI (0)), [(x, .inr (1, [.ref dg, .int (iI (((dl X : Nat) : Int))), .int (iI (pt)), .int (iI (zl)), .ref q])), (dg, .inl (cB, 1200, .inl g))], rfl, ⟨by rw [hd0], rfl⟩, by rw [ht9]; exact hP, hD⟩, hS.F ht9⟩) hS.2.2 d_Ed_digit_36
  · skip
    refine ed_pc (pc' := 15) rfl ?_
    refine lv_lload_n hx hb d_Ed_digit_15 rfl (lv_at hl 0 rfl) ?_
    refine lv_aload_n hx hb d_Ed_digit_16 rfl (lv_at hl 1 rfl) ?_
    refine va_get (D := D) (ci := 1) (v := .int (iI (((dl X : Nat) : Int)))) (C := R_Ed) (T := T_Ed) (N := 5) hx hb hts (fun w h => List.mem_cons_of_mem _ (in_Ed w h)) hown hK hP 0 rfl rfl 1 (by decide) (hts _ (List.mem_cons_of_mem _ tw_41)) (fun _ h9 => h9) rfl d_Ed_digit_17 ?_
    refine ed_i2l hx hb d_Ed_digit_20 (by omega) ?_
    refine ed_lif_ge (tgt := 35) hx hb d_Ed_digit_21 d_Ed_digit_22 rfl (by omega) (by omega) (fun h_2 => ?_) (fun h_2 => ?_)
    · skip
      refine ed_pc (pc' := 35) rfl ?_
      have hd0 : dgs X pt k = 0 := by unfold dgs; rw [if_neg (by omega)]
      refine ed_pc (pc' := 35) rfl ?_
      refine lv_iconst (v := iI 0) hx hb d_Ed_digit_35 rfl ?_
      exact W.iret (v := (iI (0))) hx hb hr (fun t9 ht9 hW9 => ⟨⟨(iI (0)), [(x, .inr (1, [.ref dg, .int (iI (((dl X : Nat) : Int))), .int (iI (pt)), .int (iI (zl)), .ref q])), (dg, .inl (cB, 1200, .inl g))], rfl, ⟨by rw [hd0], rfl⟩, by rw [ht9]; exact hP, hD⟩, hS.F ht9⟩) hS.2.2 d_Ed_digit_36
    · skip
      refine ed_pc (pc' := 25) rfl ?_
      refine ed_pc (pc' := 25) rfl ?_
      refine lv_aload_n hx hb d_Ed_digit_25 rfl (lv_at hl 1 rfl) ?_
      refine va_get (D := D) (ci := 1) (v := .ref dg) (C := R_Ed) (T := T_Ed) (N := 5) hx hb hts (fun w h => List.mem_cons_of_mem _ (in_Ed w h)) hown hK hP 0 rfl rfl 0 (by decide) (hts _ (List.mem_cons_of_mem _ tw_40)) (fun _ h9 => h9) rfl d_Ed_digit_26 ?_
      refine lv_lload_n hx hb d_Ed_digit_29 rfl (lv_at hl 0 rfl) ?_
      refine ed_l2i hx hb d_Ed_digit_30 ?_
      refine ed_bald (y := dgs X pt k) hx hb hK hP 1 0 rfl rfl ((pt + k).toNat) (by omega) (by omega) (by decide) (by unfold dgs; rw [if_pos (by omega)]; exact hn3 _ (by omega)) d_Ed_digit_31 ?_
      refine lv_goto (tgt := 36) hx hb d_Ed_digit_32 rfl ?_
      exact W.iret (v := (iI (dgs X pt k))) hx hb hr (fun t9 ht9 hW9 => ⟨⟨(iI (dgs X pt k)), [(x, .inr (1, [.ref dg, .int (iI (((dl X : Nat) : Int))), .int (iI (pt)), .int (iI (zl)), .ref q])), (dg, .inl (cB, 1200, .inl g))], rfl, ⟨rfl, rfl⟩, by rw [ht9]; exact hP, hD⟩, hS.F ht9⟩) hS.2.2 d_Ed_digit_36
set_option maxHeartbeats 4000000 in
set_option maxRecDepth 100000 in
theorem c_Ed_digest (l : Launch) (D : va_G) (cB cI cJ : ClassId) (t5 : Nat) (ad : Nat → Nat) (x dg q : Nat) (g : Nat → Int32) (pt zl : Int) (X : Nat) (hn : nm_ok g X) (hpt : -100000000 ≤ pt ∧ pt ≤ 100000000) : c_L l m_Ed_digest (Cond.code m_Ed_digest b_Ed_digest 4 (some .long) :: gw) (rm_ 0 0) (eX t5 ad) D ecl (tyS cB cI cJ) [.ref x] [(x, .inr (1, [.ref dg, .int (iI (((dl X : Nat) : Int))), .int (iI (pt)), .int (iI (zl)), .ref q])), (dg, .inl (cB, 1200, .inl g))] (fun r u => r = hsv X (dl X) * jI 31 + jI pt ∧ u = [(x, .inr (1, [.ref dg, .int (iI (((dl X : Nat) : Int))), .int (iI (pt)), .int (iI (zl)), .ref q])), (dg, .inl (cB, 1200, .inl g))]) 0 0 := by
  intro sz0
  refine Met.ofW (cc := b_Ed_digest) (maxL := 4) (ret := (some .long)) (by decide) rfl ?_
  intro p e s m args below meth c s₁ B hml hv
  obtain ⟨rfl, hsz, hP, hK, hD0, hE⟩ := hv
  have hx := B.exec
  have hb := B.bytes
  have hr := B.returns
  have hts := atoms_spec (ws := Cond.code m_Ed_digest b_Ed_digest 4 (some .long) :: gw) B.pre
  have hown : s.vm.findClass R_Ed = some m.cls := findClass_of_methodNamed B.named
  have hlocks := B.notSynchronized
  subst hsz
  have hD := hD0.self (sz := s.heap.size)
  generalize hAe : va_A [(x, .inr (1, [.ref dg, .int (iI (((dl X : Nat) : Int))), .int (iI (pt)), .int (iI (zl)), .ref q])), (dg, .inl (cB, 1200, .inl g))] s.heap.size = A at hD hE ⊢
  have hA : ∀ q : Nat, s.heap.size ≤ q → A q := fun q h => by rw [← hAe]; exact Or.inr h
  have hS : va_S A s.heap s.heap [] := va_S.rf
  have hl := lv_entry ([.ref x]) (n := 4) (Nat.le_of_ble_eq_true rfl)
  rw [lg_entry_eq]
  generalize (lg_sl ([.ref x]) ++ List.replicate (4 - (lg_sl ([.ref x])).length) Slot.unset).toArray = ls at hl ⊢
  have hl : lv_has ls 4 [(0, .ref x)] := hl
  obtain ⟨hn1, hn2, hn3⟩ := hn
  have L6 : ∀ (n9 : Nat) (i : Nat) (zi : Int) (rv : Int64) (ls : Array Slot) (H : Heap) (locs : List Loc), dl X - i = n9 → (zi = (i : Int)) → (rv = hsv X i) → (i ≤ dl X) → lv_has ls 4 [(0, .ref x), (1, .long (rv)), (3, .int (iI (zi)))] → va_P D ecl [(x, .inr (1, [.ref dg, .int (iI (((dl X : Nat) : Int))), .int (iI (pt)), .int (iI (zl)), .ref q])), (dg, .inl (cB, 1200, .inl g))] H → va_D A [(x, .inr (1, [.ref dg, .int (iI (((dl X : Nat) : Int))), .int (iI (pt)), .int (iI (zl)), .ref q])), (dg, .inl (cB, 1200, .inl g))] → va_S A s.heap H locs → W p l e (headSpec (Cond.code m_Ed_digest b_Ed_digest 4 (some .long) :: gw) (rm_ 0 0)).room s m ([.ref x] : List Value).toArray below meth c H locs 0 0 (MQ below (va_Ql (fun r u => r = hsv X (dl X) * jI 31 + jI pt ∧ u = [(x, .inr (1, [.ref dg, .int (iI (((dl X : Nat) : Int))), .int (iI (pt)), .int (iI (zl)), .ref q])), (dg, .inl (cB, 1200, .inl g))]) (c_B D ecl A) A) ([.ref x] : List Value).toArray s 0 0 A) (F0 m 6 ls []) := by
    intro n9
    induction n9 using Nat.strongRecOn with
    | ind n9 ih =>
    intro i zi rv ls H locs hn9 hi hrv hil hl hP hD hS
    refine lv_iload_n hx hb d_Ed_digest_6 rfl (lv_at hl 2 rfl) ?_
    refine lv_aload_n hx hb d_Ed_digest_7 rfl (lv_at hl 0 rfl) ?_
    refine va_get (D := D) (ci := 1) (v := .int (iI (((dl X : Nat) : Int)))) (C := R_Ed) (T := T_Ed) (N := 5) hx hb hts (fun w h => List.mem_cons_of_mem _ (in_Ed w h)) hown hK hP 0 rfl rfl 1 (by decide) (hts _ (List.mem_cons_of_mem _ tw_41)) (fun _ h9 => h9) rfl d_Ed_digest_8 ?_
    refine ed_icmp_ge (tgt := 34) hx hb d_Ed_digest_11 rfl (by omega) (by omega) (fun h_1 => ?_) (fun h_1 => ?_)
    · skip
      refine ed_pc (pc' := 34) rfl ?_
      refine lv_lload_n hx hb d_Ed_digest_34 rfl (lv_at hl 1 rfl) ?_
      refine lv_ldc2 (v := 31) hx hb hown (hts _ (List.mem_cons_of_mem _ tw_154)) d_Ed_digest_35 ?_
      refine ed_tl (y := (jI (31))) (by decide +kernel) ?_
      refine lv_lmul hx hb d_Ed_digest_38 ?_
      refine ed_pc (pc' := 39) rfl ?_
      refine lv_aload_n hx hb d_Ed_digest_39 rfl (lv_at hl 0 rfl) ?_
      refine va_get (D := D) (ci := 1) (v := .int (iI (pt))) (C := R_Ed) (T := T_Ed) (N := 5) hx hb hts (fun w h => List.mem_cons_of_mem _ (in_Ed w h)) hown hK hP 0 rfl rfl 2 (by decide) (hts _ (List.mem_cons_of_mem _ tw_42)) (fun _ h9 => h9) rfl d_Ed_digest_40 ?_
      refine ed_i2l hx hb d_Ed_digest_43 (by omega) ?_
      refine lv_ladd hx hb d_Ed_digest_44 ?_
      have hie : i = dl X := by omega
      exact W.lret (v := (((rv) * (jI (31))) + (jI (pt)))) hx hb hr (fun t9 ht9 hW9 => ⟨⟨(((rv) * (jI (31))) + (jI (pt))), [(x, .inr (1, [.ref dg, .int (iI (((dl X : Nat) : Int))), .int (iI (pt)), .int (iI (zl)), .ref q])), (dg, .inl (cB, 1200, .inl g))], rfl, ⟨by rw [hrv, hie], rfl⟩, by rw [ht9]; exact hP, hD⟩, hS.F ht9⟩) hS.2.2 d_Ed_digest_45
    · skip
      refine ed_pc (pc' := 14) rfl ?_
      obtain ⟨d0, hd0⟩ : ∃ d0 : Nat, d0 = X / 10 ^ (dl X - 1 - i) % 10 := ⟨_, rfl⟩
      have hd9 : d0 < 10 := by rw [hd0]; exact dg_lt _ _
      refine lv_lload_n hx hb d_Ed_digest_14 rfl (lv_at hl 1 rfl) ?_
      refine lv_ldc2 (v := 31) hx hb hown (hts _ (List.mem_cons_of_mem _ tw_154)) d_Ed_digest_15 ?_
      refine ed_tl (y := (jI (31))) (by decide +kernel) ?_
      refine lv_lmul hx hb d_Ed_digest_18 ?_
      refine ed_pc (pc' := 19) rfl ?_
      refine lv_aload_n hx hb d_Ed_digest_19 rfl (lv_at hl 0 rfl) ?_
      refine va_get (D := D) (ci := 1) (v := .ref dg) (C := R_Ed) (T := T_Ed) (N := 5) hx hb hts (fun w h => List.mem_cons_of_mem _ (in_Ed w h)) hown hK hP 0 rfl rfl 0 (by decide) (hts _ (List.mem_cons_of_mem _ tw_40)) (fun _ h9 => h9) rfl d_Ed_digest_20 ?_
      refine lv_iload_n hx hb d_Ed_digest_23 rfl (lv_at hl 2 rfl) ?_
      refine ed_bald (y := (d0 : Int)) hx hb hK hP 1 0 rfl rfl (i) (by omega) (by omega) (by decide) (by rw [hd0]; exact hn3 i (by omega)) d_Ed_digest_24 ?_
      refine ed_i2l hx hb d_Ed_digest_25 (by omega) ?_
      refine lv_ladd hx hb d_Ed_digest_26 ?_
      refine lv_lstore_n hx hb d_Ed_digest_27 rfl hl (by decide) rfl (fun ls hl => ?_)
      have hl : lv_has ls 4 [(1, .long (((rv) * (jI (31))) + (jI ((d0 : Int))))), (0, .ref x), (3, .int (iI (zi)))] := hl
      refine lv_iinc (k := 2) (v := iI (zi + 1)) hx hb d_Ed_digest_28 hl rfl (iI_add _ _) (by decide) rfl (fun ls hl => ?_)
      have hl : lv_has ls 4 [(3, .int (iI (zi + 1))), (1, .long (((rv) * (jI (31))) + (jI ((d0 : Int))))), (0, .ref x)] := hl
      refine ed_pc (pc' := 31) rfl ?_
      refine lv_goto (tgt := 6) hx hb d_Ed_digest_31 rfl ?_
      have hl := lv_sub hl [2, 1, 0] rfl
      exact ih _ (by omega) (i + 1) _ _ ls H locs rfl (by omega) (by rw [hrv, hd0]; rfl) (by omega) hl hP hD hS
  refine lv_ldc2 (v := 7) hx hb hown (hts _ (List.mem_cons_of_mem _ tw_153)) d_Ed_digest_0 ?_
  refine ed_tl (y := (jI (7))) (by decide +kernel) ?_
  refine lv_lstore_n hx hb d_Ed_digest_3 rfl hl (by decide) rfl (fun ls hl => ?_)
  have hl : lv_has ls 4 [(1, .long (jI (7))), (0, .ref x)] := hl
  refine lv_iconst (v := iI 0) hx hb d_Ed_digest_4 rfl ?_
  refine lv_istore_n hx hb d_Ed_digest_5 rfl hl (by decide) rfl (fun ls hl => ?_)
  have hl : lv_has ls 4 [(3, .int (iI (0))), (1, .long (jI (7))), (0, .ref x)] := hl
  have hl := lv_sub hl [2, 1, 0] rfl
  exact L6 _ (0) _ _ ls s.heap [] rfl (rfl) (rfl) (by omega) hl hP hD hS
