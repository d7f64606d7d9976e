set_option maxHeartbeats 4000000 in
set_option maxRecDepth 100000 in
theorem c_Ed_nearestToScratch (l : Launch) (D : va_G) (cB cI cJ : ClassId) (t5 : Nat) (ad : Nat → Nat) (x dg q pa : Nat) (g f : Nat → Int32) (sz V kf : Nat) (zc pt zl ex zm : Int) (hkf : kf < 2) (hV : nt_ok f sz V) (hV12 : dl V ≤ 1200) (hex : -10000000 ≤ ex ∧ ex ≤ 10000000) (hzm : zm = 0 ∨ zm = 1) : c_L l m_Ed_nearestToScratch (Cond.code m_Ed_nearestToScratch b_Ed_nearestToScratch 9 (some .long) :: gw) (rm_ 2 56) (eX t5 ad) D ecl (tyS cB cI cJ) [.ref x, .int (iI (ex)), .int (iI (zm)), .ref (ad kf)] [(x, .inr (1, [.ref dg, .int (iI (zc)), .int (iI (pt)), .int (iI (zl)), .ref q])), (dg, .inl (cB, 1200, .inl g)), (q, .inr (0, [.ref pa, .int (iI ((sz : Int)))])), (pa, .inl (cI, 306, .inl f))] (fun r u => (∃ rn : Nat, r = jI (rn : Int) ∧ NR (fbz kf + 1) (ifz kf) (nP V ex kf) (nM ex) (zm = 1) rn) ∧ ∃ (f' : Nat → Int32) (zs' : Int), u = [(x, .inr (1, [.ref dg, .int (iI (zc)), .int (iI (pt)), .int (iI (zl)), .ref q])), (dg, .inl (cB, 1200, .inl g)), (q, .inr (0, [.ref pa, .int (iI (zs'))])), (pa, .inl (cI, 306, .inl f'))]) 0 0 := by
  intro sz0
  refine Met.ofW (cc := b_Ed_nearestToScratch) (maxL := 9) (ret := (some .long)) (by decide) rfl ?_
  intro p e s m args below meth c s₁ B hml hv
  obtain ⟨rfl, hsz, hP, hK, hD0, hE⟩ := hv
  have hx := B.exec
  have hb := B.bytes
  have hr := B.returns
  have hts := atoms_spec (ws := Cond.code m_Ed_nearestToScratch b_Ed_nearestToScratch 9 (some .long) :: gw) B.pre
  have hown : s.vm.findClass R_Ed = some m.cls := findClass_of_methodNamed B.named
  have hlocks := B.notSynchronized
  subst hsz
  have hD := hD0.self (sz := s.heap.size)
  generalize hAe : va_A [(x, .inr (1, [.ref dg, .int (iI (zc)), .int (iI (pt)), .int (iI (zl)), .ref q])), (dg, .inl (cB, 1200, .inl g)), (q, .inr (0, [.ref pa, .int (iI ((sz : Int)))])), (pa, .inl (cI, 306, .inl f))] s.heap.size = A at hD hE ⊢
  have hA : ∀ q : Nat, s.heap.size ≤ q → A q := fun q h => by rw [← hAe]; exact Or.inr h
  have hS : va_S A s.heap s.heap [] := va_S.rf
  have hl := lv_entry ([.ref x, .int (iI (ex)), .int (iI (zm)), .ref (ad kf)]) (n := 9) (Nat.le_of_ble_eq_true rfl)
  rw [lg_entry_eq]
  generalize (lg_sl ([.ref x, .int (iI (ex)), .int (iI (zm)), .ref (ad kf)]) ++ List.replicate (9 - (lg_sl ([.ref x, .int (iI (ex)), .int (iI (zm)), .ref (ad kf)])).length) Slot.unset).toArray = ls at hl ⊢
  have hl : lv_has ls 9 [(0, .ref x), (1, .int (iI (ex))), (2, .int (iI (zm))), (3, .ref (ad kf))] := hl
  have hE0 := hE
  obtain ⟨hE1, hE2, hE3, hE4, hE5, hE6, hE7, hE8, hE9, hE10, hE11, hE12⟩ := hE0
  have hfz := fz_all kf hkf
  have hd0 : dl V = 0 ↔ V = 0 := ⟨fun z => dl_eq0 z, fun z => by rw [z, dl_0]⟩
  have hVl := dl_lt V
  have L110 : ∀ (s2 : Nat) (f2 : Nat → Int32) (kk : Int) (h : Nat) (num : Nat) (tt : Nat) (rem : Nat) (zb : Int) (zk : Int) (zs2 : Int) (ls : Array Slot) (H : Heap) (locs : List Loc), (zk = kk) → (-2000 ≤ kk ∧ kk ≤ 2000) → (2 ^ 56 ≤ h) → (h < 2 ^ 62) → (0 < tt) → (num = h * tt + rem) → (rem < tt) → ((zb = 1 ∧ (zm = 1 ∨ 0 < rem)) ∨ (zb = 0 ∧ ¬ (zm = 1 ∨ 0 < rem))) → (∀ dp E : Nat, (E : Int) = -kk + dp - lez kf → nP V ex kf * (tt * 2 ^ dp) = num * (nM ex * 2 ^ E)) → lv_has ls 9 [(5, .int (iI (zk)))] → va_P D ecl [(x, .inr (1, [.ref dg, .int (iI (zc)), .int (iI (pt)), .int (iI (zl)), .ref q])), (dg, .inl (cB, 1200, .inl g)), (q, .inr (0, [.ref pa, .int (iI (zs2))])), (pa, .inl (cI, 306, .inl f2))] H → va_D A [(x, .inr (1, [.ref dg, .int (iI (zc)), .int (iI (pt)), .int (iI (zl)), .ref q])), (dg, .inl (cB, 1200, .inl g)), (q, .inr (0, [.ref pa, .int (iI (zs2))])), (pa, .inl (cI, 306, .inl f2))] → va_S A s.heap H locs → W p l e (headSpec (Cond.code m_Ed_nearestToScratch b_Ed_nearestToScratch 9 (some .long) :: gw) (rm_ 2 56)).room s m ([.ref x, .int (iI (ex)), .int (iI (zm)), .ref (ad kf)] : List Value).toArray below meth c H locs 0 0 (MQ below (va_Ql (fun r u => (∃ rn : Nat, r = jI (rn : Int) ∧ NR (fbz kf + 1) (ifz kf) (nP V ex kf) (nM ex) (zm = 1) rn) ∧ ∃ (f' : Nat → Int32) (zs' : Int), u = [(x, .inr (1, [.ref dg, .int (iI (zc)), .int (iI (pt)), .int (iI (zl)), .ref q])), (dg, .inl (cB, 1200, .inl g)), (q, .inr (0, [.ref pa, .int (iI (zs'))])), (pa, .inl (cI, 306, .inl f'))]) (c_B D ecl A) A) ([.ref x, .int (iI (ex)), .int (iI (zm)), .ref (ad kf)] : List Value).toArray s 0 0 A) (F0 m 110 ls [.int (iI (zb)), .long (jI ((h : Int))), .ref (ad kf)]) := by
    intro s2 f2 kk h num tt rem zb zk zs2 ls H locs hzk hkr hh1 hh2 htt hnum hrem hzb hXX hl hP hD hS
    refine lv_iload hx hb d_Ed_nearestToScratch_110 (lv_at hl 0 rfl) ?_
    refine ed_ineg hx hb d_Ed_nearestToScratch_112 ?_
    refine c_fl (wc := []) (wr := [(x, .inr (1, [.ref dg, .int (iI (zc)), .int (iI (pt)), .int (iI (zl)), .ref q])), (dg, .inl (cB, 1200, .inl g)), (q, .inr (0, [.ref pa, .int (iI (zs2))])), (pa, .inl (cI, 306, .inl f2))]) (va_runV (C := "ExactDigits$Format") (As := [.long (jI ((h : Int))), .int (iI (zb)), .int (iI (-(zk)))]) (rest := []) ⟨hx, hb, hml, hown, hts⟩ (c_Fo_nearestTo l D cB cI cJ t5 ad kf h zb (-zk) (nP V ex kf) (nM ex) num tt rem (zm = 1) hkf hh1 hh2 (by omega) (nM_pos ex) htt hnum hrem hzb (by rw [hzk]; exact hXX) H.size) (cwV 3 hts (gV tw_138 tw_139 tw_140 tw_10 tw_141) rfl rfl rfl (by decide +kernel) ⟨Nat.le_of_ble_eq_true rfl, Nat.le_of_ble_eq_true rfl⟩) ⟨c_blind (eX_X t5 ad), va_Orecv (hE5 kf hkf) hS, fun U hU hW => c_pre (wc := []) (eX_X t5 ad) hE hK hP hD hS hA [] rfl (by decide) U hU hW⟩ rfl rfl hl.1 rfl (lv_room (Nat.le_of_ble_eq_true rfl)) d_Ed_nearestToScratch_113 ⟨Nat.le_of_ble_eq_true rfl, Nat.le_of_ble_eq_true rfl⟩) hP hD hS hA [] [0, 1, 2, 3] rfl rfl (by decide) (by decide) (fun r u H locs hp hP hD hS => ?_)
    obtain ⟨⟨rn, rfl, hNR⟩, rfl⟩ := hp
    have hP : va_P D ecl [(x, .inr (1, [.ref dg, .int (iI (zc)), .int (iI (pt)), .int (iI (zl)), .ref q])), (dg, .inl (cB, 1200, .inl g)), (q, .inr (0, [.ref pa, .int (iI (zs2))])), (pa, .inl (cI, 306, .inl f2))] H := hP
    have hD : va_D A [(x, .inr (1, [.ref dg, .int (iI (zc)), .int (iI (pt)), .int (iI (zl)), .ref q])), (dg, .inl (cB, 1200, .inl g)), (q, .inr (0, [.ref pa, .int (iI (zs2))])), (pa, .inl (cI, 306, .inl f2))] := hD
    exact W.lret (v := (jI ((rn : Int)))) hx hb hr (fun t9 ht9 hW9 => ⟨⟨(jI ((rn : Int))), [(x, .inr (1, [.ref dg, .int (iI (zc)), .int (iI (pt)), .int (iI (zl)), .ref q])), (dg, .inl (cB, 1200, .inl g)), (q, .inr (0, [.ref pa, .int (iI (zs2))])), (pa, .inl (cI, 306, .inl f2))], rfl, ⟨⟨rn, rfl, hNR⟩, f2, _, rfl⟩, by rw [ht9]; exact hP, hD⟩, hS.F ht9⟩) hS.2.2 d_Ed_nearestToScratch_116
  refine lv_aload_n hx hb d_Ed_nearestToScratch_0 rfl (lv_at hl 0 rfl) ?_
  refine va_get (D := D) (ci := 1) (v := .ref q) (C := R_Ed) (T := T_Ed) (N := 5) hx hb hts (fun w h => List.mem_cons_of_mem _ (in_Ed w h)) hown hK hP 0 rfl rfl 4 (by decide) (hts _ (List.mem_cons_of_mem _ tw_44)) (fun _ h9 => h9) rfl d_Ed_nearestToScratch_1 ?_
  refine c_fi (wc := [(q, .inr (0, [.ref pa, .int (iI ((sz : Int)))])), (pa, .inl (cI, 306, .inl f))]) (wr := [(x, .inr (1, [.ref dg, .int (iI (zc)), .int (iI (pt)), .int (iI (zl)), .ref q])), (dg, .inl (cB, 1200, .inl g))]) (va_runV (C := "ExactDigits$Natural") (As := []) (rest := []) ⟨hx, hb, hml, hown, hts⟩ (c_Na_length l D cB cI cJ t5 ad q pa f sz V hV s.heap.size) (cwV 0 hts (gV tw_70 tw_71 tw_72 tw_2 tw_73) rfl rfl rfl (by decide +kernel) ⟨Nat.le_of_ble_eq_true rfl, Nat.le_of_ble_eq_true rfl⟩) ⟨c_blind (eX_X t5 ad), va_recv (ci := 0) (q0 := 2) hK hP rfl rfl, fun U hU hW => c_pre (wc := [(q, .inr (0, [.ref pa, .int (iI ((sz : Int)))])), (pa, .inl (cI, 306, .inl f))]) (eX_X t5 ad) hE hK hP hD hS hA [2, 3] rfl (by decide) U hU hW⟩ rfl rfl hl.1 rfl (lv_room (Nat.le_of_ble_eq_true rfl)) d_Ed_nearestToScratch_4 ⟨Nat.le_of_ble_eq_true rfl, Nat.le_of_ble_eq_true rfl⟩) hP hD hS hA [2, 3] [0, 1] rfl rfl (by decide) (by decide) (fun r u H locs hp hP hD hS => ?_)
  obtain ⟨rfl, rfl⟩ := hp
  have hP : va_P D ecl [(x, .inr (1, [.ref dg, .int (iI (zc)), .int (iI (pt)), .int (iI (zl)), .ref q])), (dg, .inl (cB, 1200, .inl g)), (q, .inr (0, [.ref pa, .int (iI ((sz : Int)))])), (pa, .inl (cI, 306, .inl f))] H := hP
  have hD : va_D A [(x, .inr (1, [.ref dg, .int (iI (zc)), .int (iI (pt)), .int (iI (zl)), .ref q])), (dg, .inl (cB, 1200, .inl g)), (q, .inr (0, [.ref pa, .int (iI ((sz : Int)))])), (pa, .inl (cI, 306, .inl f))] := hD
  refine lv_istore hx hb d_Ed_nearestToScratch_7 hl (by decide) rfl (fun ls hl => ?_)
  have hl : lv_has ls 9 [(4, .int (iI (((dl V : Nat) : Int)))), (0, .ref x), (1, .int (iI (ex))), (2, .int (iI (zm))), (3, .ref (ad kf))] := hl
  refine lv_iload hx hb d_Ed_nearestToScratch_9 (lv_at hl 0 rfl) ?_
  refine ed_if_eq (tgt := 24) hx hb d_Ed_nearestToScratch_11 rfl (by omega) (fun h_1 => ?_) (fun h_1 => ?_)
  · skip
    refine ed_pc (pc' := 24) rfl ?_
    refine lv_lconst (v := jI 0) hx hb d_Ed_nearestToScratch_24 (by decide +kernel) ?_
    have hsm : 2 * nP V ex kf < nM ex := by
      rcases Nat.eq_zero_or_pos V with z | z
      · rw [z]; exact ns_zero ex kf
      · exact ns_small hkf hVl (by have := dl_pos z; omega)
    have hP := hP.sub (ws' := [(x, .inr (1, [.ref dg, .int (iI (zc)), .int (iI (pt)), .int (iI (zl)), .ref q])), (dg, .inl (cB, 1200, .inl g)), (q, .inr (0, [.ref pa, .int (iI ((sz : Int)))])), (pa, .inl (cI, 306, .inl f))]) [0, 1, 2, 3] rfl
    have hD := hD.sub (ws' := [(x, .inr (1, [.ref dg, .int (iI (zc)), .int (iI (pt)), .int (iI (zl)), .ref q])), (dg, .inl (cB, 1200, .inl g)), (q, .inr (0, [.ref pa, .int (iI ((sz : Int)))])), (pa, .inl (cI, 306, .inl f))]) [0, 1, 2, 3] (by decide) rfl
    exact W.lret (v := (jI (0))) hx hb hr (fun t9 ht9 hW9 => ⟨⟨(jI (0)), [(x, .inr (1, [.ref dg, .int (iI (zc)), .int (iI (pt)), .int (iI (zl)), .ref q])), (dg, .inl (cB, 1200, .inl g)), (q, .inr (0, [.ref pa, .int (iI ((sz : Int)))])), (pa, .inl (cI, 306, .inl f))], rfl, ⟨⟨0, rfl, NR_small hsm⟩, f, _, rfl⟩, by rw [ht9]; exact hP, hD⟩, hS.F ht9⟩) hS.2.2 d_Ed_nearestToScratch_25
  · skip
    refine ed_pc (pc' := 14) rfl ?_
    refine lv_iload hx hb d_Ed_nearestToScratch_14 (lv_at hl 0 rfl) ?_
    refine ed_pc (pc' := 16) rfl ?_
    refine lv_iload_n hx hb d_Ed_nearestToScratch_16 rfl (lv_at hl 2 rfl) ?_
    refine ed_iadd hx hb d_Ed_nearestToScratch_17 ?_
    refine lv_sipush (v := iI (-330)) hx hb d_Ed_nearestToScratch_18 (by decide +kernel) ?_
    refine ed_icmp_ge (tgt := 26) hx hb d_Ed_nearestToScratch_21 rfl (by omega) (by omega) (fun h_2 => ?_) (fun h_2 => ?_)
    · skip
      refine ed_pc (pc' := 26) rfl ?_
      refine lv_iload hx hb d_Ed_nearestToScratch_26 (lv_at hl 0 rfl) ?_
      refine lv_iload_n hx hb d_Ed_nearestToScratch_28 rfl (lv_at hl 2 rfl) ?_
      refine ed_iadd hx hb d_Ed_nearestToScratch_29 ?_
      refine lv_sipush (v := iI 310) hx hb d_Ed_nearestToScratch_30 (by decide +kernel) ?_
      refine ed_pc (pc' := 33) rfl ?_
      refine ed_icmp_le (tgt := 41) hx hb d_Ed_nearestToScratch_33 rfl (by omega) (by omega) (fun h_3 => ?_) (fun h_3 => ?_)
      · skip
        refine ed_pc (pc' := 41) rfl ?_
        refine lv_bipush (v := iI 60) hx hb d_Ed_nearestToScratch_41 (by decide +kernel) ?_
        refine lv_iload hx hb d_Ed_nearestToScratch_43 (lv_at hl 0 rfl) ?_
        refine lv_iload_n hx hb d_Ed_nearestToScratch_45 rfl (lv_at hl 2 rfl) ?_
        refine ed_iadd hx hb d_Ed_nearestToScratch_46 ?_
        refine c_fi (wc := []) (wr := [(x, .inr (1, [.ref dg, .int (iI (zc)), .int (iI (pt)), .int (iI (zl)), .ref q])), (dg, .inl (cB, 1200, .inl g)), (q, .inr (0, [.ref pa, .int (iI ((sz : Int)))])), (pa, .inl (cI, 306, .inl f))]) (va_runS (As := [.int (iI ((((dl V : Nat) : Int)) + (ex)))]) (rest := [.int (iI (60))]) ⟨hx, hb, hml, hown, hts⟩ (c_Ed_bitsOfTenTo l D cB cI cJ t5 ad (((dl V : Nat) : Int) + (ex)) (by omega) H.size) (va_cwS 1 hts (gS tw_114 tw_115 tw_1 tw_116) rfl rfl rfl (by decide +kernel) ⟨Nat.le_of_ble_eq_true rfl, Nat.le_of_ble_eq_true rfl⟩) ⟨c_blind (eX_X t5 ad), fun U hU hW => c_pre (wc := []) (eX_X t5 ad) hE hK hP hD hS hA [] rfl (by decide) U hU hW⟩ rfl rfl hl.1 rfl (lv_room (Nat.le_of_ble_eq_true rfl)) d_Ed_nearestToScratch_47 ⟨Nat.le_of_ble_eq_true rfl, Nat.le_of_ble_eq_true rfl⟩) hP hD hS hA [] [0, 1, 2, 3] rfl rfl (by decide) (by decide) (fun r u H locs hp hP hD hS => ?_)
        obtain ⟨rfl, rfl⟩ := hp
        have hP : va_P D ecl [(x, .inr (1, [.ref dg, .int (iI (zc)), .int (iI (pt)), .int (iI (zl)), .ref q])), (dg, .inl (cB, 1200, .inl g)), (q, .inr (0, [.ref pa, .int (iI ((sz : Int)))])), (pa, .inl (cI, 306, .inl f))] H := hP
        have hD : va_D A [(x, .inr (1, [.ref dg, .int (iI (zc)), .int (iI (pt)), .int (iI (zl)), .ref q])), (dg, .inl (cB, 1200, .inl g)), (q, .inr (0, [.ref pa, .int (iI ((sz : Int)))])), (pa, .inl (cI, 306, .inl f))] := hD
        refine ed_isub hx hb d_Ed_nearestToScratch_50 ?_
        obtain ⟨k, hk⟩ : ∃ k : Int, k = 60 - (((dl V : Nat) : Int) + ex) * 217706 / 65536 := ⟨_, rfl⟩
        have hVp : 0 < V := by rcases Nat.eq_zero_or_pos V with z | z; exact absurd (hd0.mpr z) (by omega); exact z
        have hkr : -1200 ≤ k ∧ k ≤ 1200 := by omega
        obtain ⟨hb1, hb2⟩ := bt_ok (p := ((dl V : Nat) : Int) + ex) (by omega) hk
        have hXR := nr_room hV12 hkr
        refine ed_tz (y := k) (by rw [hk]) ?_
        refine lv_istore hx hb d_Ed_nearestToScratch_51 hl (by decide) rfl (fun ls hl => ?_)
        have hl : lv_has ls 9 [(5, .int (iI (k))), (4, .int (iI (((dl V : Nat) : Int)))), (0, .ref x), (1, .int (iI (ex))), (2, .int (iI (zm))), (3, .ref (ad kf))] := hl
        refine ed_pc (pc' := 53) rfl ?_
        refine lv_iload_n hx hb d_Ed_nearestToScratch_53 rfl (lv_at hl 3 rfl) ?_
        refine lv_aload_n hx hb d_Ed_nearestToScratch_54 rfl (lv_at hl 2 rfl) ?_
        refine va_get (D := D) (ci := 1) (v := .ref q) (C := R_Ed) (T := T_Ed) (N := 5) hx hb hts (fun w h => List.mem_cons_of_mem _ (in_Ed w h)) hown hK hP 0 rfl rfl 4 (by decide) (hts _ (List.mem_cons_of_mem _ tw_44)) (fun _ h9 => h9) rfl d_Ed_nearestToScratch_55 ?_
        refine lv_iload hx hb d_Ed_nearestToScratch_58 (lv_at hl 0 rfl) ?_
        refine c_fi (wc := [(q, .inr (0, [.ref pa, .int (iI ((sz : Int)))])), (pa, .inl (cI, 306, .inl f))]) (wr := [(x, .inr (1, [.ref dg, .int (iI (zc)), .int (iI (pt)), .int (iI (zl)), .ref q])), (dg, .inl (cB, 1200, .inl g))]) (va_runV (C := "ExactDigits$Natural") (As := [.int (iI (k))]) (rest := [.int (iI (ex))]) ⟨hx, hb, hml, hown, hts⟩ (c_Na_timesTwoTo l D cB cI cJ t5 ad q pa f sz V k (by omega) hV hXR H.size) (cwV 1 hts (gV tw_118 tw_119 tw_120 tw_2 tw_121) rfl rfl rfl (by decide +kernel) ⟨Nat.le_of_ble_eq_true rfl, Nat.le_of_ble_eq_true rfl⟩) ⟨c_blind (eX_X t5 ad), va_recv (ci := 0) (q0 := 2) hK hP rfl rfl, fun U hU hW => c_pre (wc := [(q, .inr (0, [.ref pa, .int (iI ((sz : Int)))])), (pa, .inl (cI, 306, .inl f))]) (eX_X t5 ad) hE hK hP hD hS hA [2, 3] rfl (by decide) U hU hW⟩ rfl rfl hl.1 rfl (lv_room (Nat.le_of_ble_eq_true rfl)) d_Ed_nearestToScratch_60 ⟨Nat.le_of_ble_eq_true rfl, Nat.le_of_ble_eq_true rfl⟩) hP hD hS hA [2, 3] [0, 1] rfl rfl (by decide) (by decide) (fun r u H locs hp hP hD hS => ?_)
        obtain ⟨rfl, f2, s2, rfl, hok2⟩ := hp
        have hP : va_P D ecl [(x, .inr (1, [.ref dg, .int (iI (zc)), .int (iI (pt)), .int (iI (zl)), .ref q])), (dg, .inl (cB, 1200, .inl g)), (q, .inr (0, [.ref pa, .int (iI ((s2 : Int)))])), (pa, .inl (cI, 306, .inl f2))] H := hP
        have hD : va_D A [(x, .inr (1, [.ref dg, .int (iI (zc)), .int (iI (pt)), .int (iI (zl)), .ref q])), (dg, .inl (cB, 1200, .inl g)), (q, .inr (0, [.ref pa, .int (iI ((s2 : Int)))])), (pa, .inl (cI, 306, .inl f2))] := hD
        refine ed_iadd hx hb d_Ed_nearestToScratch_63 ?_
        obtain ⟨un, hun⟩ : ∃ un : Int, un = ex + min k 0 := ⟨_, rfl⟩
        refine ed_tz (y := un) (by rw [hun]) ?_
        have g1 : (-k).toNat + un.toNat + (-ex).toNat = (-un).toNat + ex.toNat := by omega
        have g2 : dl V + ex.toNat + (-(((dl V : Nat) : Int) + ex)).toNat = (((dl V : Nat) : Int) + ex).toNat + (-ex).toNat := by omega
        have hhi := nc_hi g1 g2 hVl hb1
        have hlo := nc_lo g1 g2 (dl_pos hVp) (dl_le hVp) hb2
        have htw : V * tw2 k = V * (2 ^ k.toNat * 5 ^ (-k).toNat) := rfl
        rw [← htw] at hhi hlo
        obtain ⟨h, hh⟩ : ∃ h : Nat, h = V * tw2 k * 10 ^ un.toNat / 10 ^ (-un).toNat := ⟨_, rfl⟩
        obtain ⟨rem, hrm⟩ : ∃ rem : Nat, rem = V * tw2 k * 10 ^ un.toNat % 10 ^ (-un).toNat := ⟨_, rfl⟩
        obtain ⟨num, hnm⟩ : ∃ num : Nat, num = V * tw2 k * 10 ^ un.toNat := ⟨_, rfl⟩
        obtain ⟨tt, htt0⟩ : ∃ tt : Nat, tt = 10 ^ (-un).toNat := ⟨_, rfl⟩
        have htt : 0 < tt := by rw [htt0]; exact p10_pos _
        have hfd := fd_num (V * tw2 k) un
        have hhd := hdb_num (V * tw2 k) un
        have hXX : ∀ dp E : Nat, (E : Int) = -k + dp - lez kf → nP V ex kf * (tt * 2 ^ dp) = num * (nM ex * 2 ^ E) := fun dp E hEE => by
          rw [htt0, hnm, htw]; exact nc_x g1 (by omega)
        rw [← hh] at hfd
        rw [← hrm] at hhd
        rw [← hnm, ← htt0] at hhi hlo hh hrm
        have hnum : num = h * tt + rem := by rw [hh, hrm, Nat.mul_comm]; exact (Nat.div_add_mod _ _).symm
        have hrem : rem < tt := by rw [hrm]; exact Nat.mod_lt _ htt
        have hh2 : h < 2 ^ 62 := by rw [hh]; exact (Nat.div_lt_iff_lt_mul htt).mpr hhi
        have hh1 : 2 ^ 56 ≤ h := by rw [hh]; exact (Nat.le_div_iff_mul_le htt).mpr hlo
        have hdl2 : dl (V * tw2 k) ≤ 2754 := by
          have hV2 := hok2.2.1
          rw [pB_10] at hV2
          exact dl_bound (Nat.lt_of_lt_of_le hV2 (p10_le (by have := hok2.1; omega)))
        clear hb1 hb2 hhi hlo hh hrm hnm htt0
        have hs4 := hok2.1
        refine lv_istore hx hb d_Ed_nearestToScratch_64 hl (by decide) rfl (fun ls hl => ?_)
        have hl : lv_has ls 9 [(6, .int (iI (un))), (5, .int (iI (k))), (4, .int (iI (((dl V : Nat) : Int)))), (0, .ref x), (1, .int (iI (ex))), (2, .int (iI (zm))), (3, .ref (ad kf))] := hl
        refine lv_aload_n hx hb d_Ed_nearestToScratch_66 rfl (lv_at hl 3 rfl) ?_
        refine ed_pc (pc' := 67) rfl ?_
        refine va_get (D := D) (ci := 1) (v := .ref q) (C := R_Ed) (T := T_Ed) (N := 5) hx hb hts (fun w h => List.mem_cons_of_mem _ (in_Ed w h)) hown hK hP 0 rfl rfl 4 (by decide) (hts _ (List.mem_cons_of_mem _ tw_44)) (fun _ h9 => h9) rfl d_Ed_nearestToScratch_67 ?_
        refine lv_aload_n hx hb d_Ed_nearestToScratch_70 rfl (lv_at hl 3 rfl) ?_
        refine va_get (D := D) (ci := 1) (v := .ref q) (C := R_Ed) (T := T_Ed) (N := 5) hx hb hts (fun w h => List.mem_cons_of_mem _ (in_Ed w h)) hown hK hP 0 rfl rfl 4 (by decide) (hts _ (List.mem_cons_of_mem _ tw_44)) (fun _ h9 => h9) rfl d_Ed_nearestToScratch_71 ?_
        refine c_fi (wc := [(q, .inr (0, [.ref pa, .int (iI ((s2 : Int)))])), (pa, .inl (cI, 306, .inl f2))]) (wr := [(x, .inr (1, [.ref dg, .int (iI (zc)), .int (iI (pt)), .int (iI (zl)), .ref q])), (dg, .inl (cB, 1200, .inl g))]) (va_runV (C := "ExactDigits$Natural") (As := []) (rest := [.ref q]) ⟨hx, hb, hml, hown, hts⟩ (c_Na_length l D cB cI cJ t5 ad q pa f2 s2 (V * tw2 k) hok2 H.size) (cwV 0 hts (gV tw_70 tw_71 tw_72 tw_2 tw_73) rfl rfl rfl (by decide +kernel) ⟨Nat.le_of_ble_eq_true rfl, Nat.le_of_ble_eq_true rfl⟩) ⟨c_blind (eX_X t5 ad), va_recv (ci := 0) (q0 := 2) hK hP rfl rfl, fun U hU hW => c_pre (wc := [(q, .inr (0, [.ref pa, .int (iI ((s2 : Int)))])), (pa, .inl (cI, 306, .inl f2))]) (eX_X t5 ad) hE hK hP hD hS hA [2, 3] rfl (by decide) U hU hW⟩ rfl rfl hl.1 rfl (lv_room (Nat.le_of_ble_eq_true rfl)) d_Ed_nearestToScratch_74 ⟨Nat.le_of_ble_eq_true rfl, Nat.le_of_ble_eq_true rfl⟩) hP hD hS hA [2, 3] [0, 1] rfl rfl (by decide) (by decide) (fun r u H locs hp hP hD hS => ?_)
        obtain ⟨rfl, rfl⟩ := hp
        have hP : va_P D ecl [(x, .inr (1, [.ref dg, .int (iI (zc)), .int (iI (pt)), .int (iI (zl)), .ref q])), (dg, .inl (cB, 1200, .inl g)), (q, .inr (0, [.ref pa, .int (iI ((s2 : Int)))])), (pa, .inl (cI, 306, .inl f2))] H := hP
        have hD : va_D A [(x, .inr (1, [.ref dg, .int (iI (zc)), .int (iI (pt)), .int (iI (zl)), .ref q])), (dg, .inl (cB, 1200, .inl g)), (q, .inr (0, [.ref pa, .int (iI ((s2 : Int)))])), (pa, .inl (cI, 306, .inl f2))] := hD
        refine lv_iload hx hb d_Ed_nearestToScratch_77 (lv_at hl 0 rfl) ?_
        refine ed_iadd hx hb d_Ed_nearestToScratch_79 ?_
        refine c_fl (wc := [(q, .inr (0, [.ref pa, .int (iI ((s2 : Int)))])), (pa, .inl (cI, 306, .inl f2))]) (wr := [(x, .inr (1, [.ref dg, .int (iI (zc)), .int (iI (pt)), .int (iI (zl)), .ref q])), (dg, .inl (cB, 1200, .inl g))]) (va_runV (C := "ExactDigits$Natural") (As := [.int (iI ((((dl (V * tw2 k) : Nat) : Int)) + (un)))]) (rest := []) ⟨hx, hb, hml, hown, hts⟩ (c_Na_firstDigits l D cB cI cJ t5 ad q pa f2 s2 (V * tw2 k) (((dl (V * tw2 k) : Nat) : Int) + (un)) (by omega) hok2 (by rw [hfd]; omega) H.size) (cwV 1 hts (gV tw_128 tw_129 tw_130 tw_2 tw_131) rfl rfl rfl (by decide +kernel) ⟨Nat.le_of_ble_eq_true rfl, Nat.le_of_ble_eq_true rfl⟩) ⟨c_blind (eX_X t5 ad), va_recv (ci := 0) (q0 := 2) hK hP rfl rfl, fun U hU hW => c_pre (wc := [(q, .inr (0, [.ref pa, .int (iI ((s2 : Int)))])), (pa, .inl (cI, 306, .inl f2))]) (eX_X t5 ad) hE hK hP hD hS hA [2, 3] rfl (by decide) U hU hW⟩ rfl rfl hl.1 rfl (lv_room (Nat.le_of_ble_eq_true rfl)) d_Ed_nearestToScratch_80 ⟨Nat.le_of_ble_eq_true rfl, Nat.le_of_ble_eq_true rfl⟩) hP hD hS hA [2, 3] [0, 1] rfl rfl (by decide) (by decide) (fun r u H locs hp hP hD hS => ?_)
        obtain ⟨rfl, rfl⟩ := hp
        have hP : va_P D ecl [(x, .inr (1, [.ref dg, .int (iI (zc)), .int (iI (pt)), .int (iI (zl)), .ref q])), (dg, .inl (cB, 1200, .inl g)), (q, .inr (0, [.ref pa, .int (iI ((s2 : Int)))])), (pa, .inl (cI, 306, .inl f2))] H := hP
        have hD : va_D A [(x, .inr (1, [.ref dg, .int (iI (zc)), .int (iI (pt)), .int (iI (zl)), .ref q])), (dg, .inl (cB, 1200, .inl g)), (q, .inr (0, [.ref pa, .int (iI ((s2 : Int)))])), (pa, .inl (cI, 306, .inl f2))] := hD
        refine ed_tj (y := (h : Int)) (by rw [hfd]) ?_
        refine lv_lstore hx hb d_Ed_nearestToScratch_83 hl (by decide) rfl (fun ls hl => ?_)
        have hl : lv_has ls 9 [(7, .long (jI ((h : Int)))), (6, .int (iI (un))), (5, .int (iI (k))), (4, .int (iI (((dl V : Nat) : Int)))), (0, .ref x), (1, .int (iI (ex))), (2, .int (iI (zm))), (3, .ref (ad kf))] := hl
        refine ed_pc (pc' := 85) rfl ?_
        refine lv_aload_n hx hb d_Ed_nearestToScratch_85 rfl (lv_at hl 7 rfl) ?_
        refine lv_lload hx hb d_Ed_nearestToScratch_86 (lv_at hl 0 rfl) ?_
        refine lv_iload_n hx hb d_Ed_nearestToScratch_88 rfl (lv_at hl 6 rfl) ?_
        refine ed_if_ne (tgt := 105) hx hb d_Ed_nearestToScratch_89 rfl (by omega) (fun h_4 => ?_) (fun h_4 => ?_)
        · skip
          refine ed_pc (pc' := 105) rfl ?_
          refine lv_iconst (v := iI 1) hx hb d_Ed_nearestToScratch_105 rfl ?_
          refine lv_goto (tgt := 110) hx hb d_Ed_nearestToScratch_106 rfl ?_
          have hP := hP.sub (ws' := [(x, .inr (1, [.ref dg, .int (iI (zc)), .int (iI (pt)), .int (iI (zl)), .ref q])), (dg, .inl (cB, 1200, .inl g)), (q, .inr (0, [.ref pa, .int (iI ((s2 : Int)))])), (pa, .inl (cI, 306, .inl f2))]) [0, 1, 2, 3] rfl
          have hD := hD.sub (ws' := [(x, .inr (1, [.ref dg, .int (iI (zc)), .int (iI (pt)), .int (iI (zl)), .ref q])), (dg, .inl (cB, 1200, .inl g)), (q, .inr (0, [.ref pa, .int (iI ((s2 : Int)))])), (pa, .inl (cI, 306, .inl f2))]) [0, 1, 2, 3] (by decide) rfl
          have hl := lv_sub hl [2] rfl
          exact L110 (s2) (f2) (k) (h) (num) (tt) (rem) _ _ _ ls H locs (rfl) (by omega) (hh1) (hh2) (htt) (hnum) (hrem) (Or.inl ⟨rfl, by omega⟩) (hXX) hl hP hD hS
        · skip
          refine ed_pc (pc' := 92) rfl ?_
          refine lv_aload_n hx hb d_Ed_nearestToScratch_92 rfl (lv_at hl 4 rfl) ?_
          refine va_get (D := D) (ci := 1) (v := .ref q) (C := R_Ed) (T := T_Ed) (N := 5) hx hb hts (fun w h => List.mem_cons_of_mem _ (in_Ed w h)) hown hK hP 0 rfl rfl 4 (by decide) (hts _ (List.mem_cons_of_mem _ tw_44)) (fun _ h9 => h9) rfl d_Ed_nearestToScratch_93 ?_
          refine lv_iload hx hb d_Ed_nearestToScratch_96 (lv_at hl 1 rfl) ?_
          refine ed_ineg hx hb d_Ed_nearestToScratch_98 ?_
          refine ed_pc (pc' := 99) rfl ?_
          refine c_fi (wc := [(q, .inr (0, [.ref pa, .int (iI ((s2 : Int)))])), (pa, .inl (cI, 306, .inl f2))]) (wr := [(x, .inr (1, [.ref dg, .int (iI (zc)), .int (iI (pt)), .int (iI (zl)), .ref q])), (dg, .inl (cB, 1200, .inl g))]) (va_runV (C := "ExactDigits$Natural") (As := [.int (iI (-(un)))]) (rest := [.long (jI ((h : Int))), .ref (ad kf)]) ⟨hx, hb, hml, hown, hts⟩ (c_Na_hasDigitBelow l D cB cI cJ t5 ad q pa f2 s2 (V * tw2 k) (-un) (by omega) hok2 H.size) (cwV 1 hts (gV tw_137 tw_80 tw_81 tw_2 tw_82) rfl rfl rfl (by decide +kernel) ⟨Nat.le_of_ble_eq_true rfl, Nat.le_of_ble_eq_true rfl⟩) ⟨c_blind (eX_X t5 ad), va_recv (ci := 0) (q0 := 2) hK hP rfl rfl, fun U hU hW => c_pre (wc := [(q, .inr (0, [.ref pa, .int (iI ((s2 : Int)))])), (pa, .inl (cI, 306, .inl f2))]) (eX_X t5 ad) hE hK hP hD hS hA [2, 3] rfl (by decide) U hU hW⟩ rfl rfl hl.1 rfl (lv_room (Nat.le_of_ble_eq_true rfl)) d_Ed_nearestToScratch_99 ⟨Nat.le_of_ble_eq_true rfl, Nat.le_of_ble_eq_true rfl⟩) hP hD hS hA [2, 3] [0, 1] rfl rfl (by decide) (by decide) (fun r u H locs hp hP hD hS => ?_)
          obtain ⟨rfl, rfl⟩ := hp
          have hP : va_P D ecl [(x, .inr (1, [.ref dg, .int (iI (zc)), .int (iI (pt)), .int (iI (zl)), .ref q])), (dg, .inl (cB, 1200, .inl g)), (q, .inr (0, [.ref pa, .int (iI ((s2 : Int)))])), (pa, .inl (cI, 306, .inl f2))] H := hP
          have hD : va_D A [(x, .inr (1, [.ref dg, .int (iI (zc)), .int (iI (pt)), .int (iI (zl)), .ref q])), (dg, .inl (cB, 1200, .inl g)), (q, .inr (0, [.ref pa, .int (iI ((s2 : Int)))])), (pa, .inl (cI, 306, .inl f2))] := hD
          refine ed_if_eq (tgt := 109) hx hb d_Ed_nearestToScratch_102 rfl (by omega) (fun h_5 => ?_) (fun h_5 => ?_)
          · skip
            refine ed_pc (pc' := 109) rfl ?_
            refine lv_iconst (v := iI 0) hx hb d_Ed_nearestToScratch_109 rfl ?_
            have hP := hP.sub (ws' := [(x, .inr (1, [.ref dg, .int (iI (zc)), .int (iI (pt)), .int (iI (zl)), .ref q])), (dg, .inl (cB, 1200, .inl g)), (q, .inr (0, [.ref pa, .int (iI ((s2 : Int)))])), (pa, .inl (cI, 306, .inl f2))]) [0, 1, 2, 3] rfl
            have hD := hD.sub (ws' := [(x, .inr (1, [.ref dg, .int (iI (zc)), .int (iI (pt)), .int (iI (zl)), .ref q])), (dg, .inl (cB, 1200, .inl g)), (q, .inr (0, [.ref pa, .int (iI ((s2 : Int)))])), (pa, .inl (cI, 306, .inl f2))]) [0, 1, 2, 3] (by decide) rfl
            have hl := lv_sub hl [2] rfl
            exact L110 (s2) (f2) (k) (h) (num) (tt) (rem) _ _ _ ls H locs (rfl) (by omega) (hh1) (hh2) (htt) (hnum) (hrem) (Or.inr ⟨rfl, by omega⟩) (hXX) hl hP hD hS
          · skip
            refine ed_pc (pc' := 105) rfl ?_
            refine lv_iconst (v := iI 1) hx hb d_Ed_nearestToScratch_105 rfl ?_
            refine lv_goto (tgt := 110) hx hb d_Ed_nearestToScratch_106 rfl ?_
            have hP := hP.sub (ws' := [(x, .inr (1, [.ref dg, .int (iI (zc)), .int (iI (pt)), .int (iI (zl)), .ref q])), (dg, .inl (cB, 1200, .inl g)), (q, .inr (0, [.ref pa, .int (iI ((s2 : Int)))])), (pa, .inl (cI, 306, .inl f2))]) [0, 1, 2, 3] rfl
            have hD := hD.sub (ws' := [(x, .inr (1, [.ref dg, .int (iI (zc)), .int (iI (pt)), .int (iI (zl)), .ref q])), (dg, .inl (cB, 1200, .inl g)), (q, .inr (0, [.ref pa, .int (iI ((s2 : Int)))])), (pa, .inl (cI, 306, .inl f2))]) [0, 1, 2, 3] (by decide) rfl
            have hl := lv_sub hl [2] rfl
            exact L110 (s2) (f2) (k) (h) (num) (tt) (rem) _ _ _ ls H locs (rfl) (by omega) (hh1) (hh2) (htt) (hnum) (hrem) (Or.inl ⟨rfl, by omega⟩) (hXX) hl hP hD hS
      · skip
        refine ed_pc (pc' := 36) rfl ?_
        refine lv_aload_n hx hb d_Ed_nearestToScratch_36 rfl (lv_at hl 4 rfl) ?_
        refine va_getX hx hb hE9 hkf hS hown (hts _ (List.mem_cons_of_mem _ tw_598)) (fun _ h9 => h9) d_Ed_nearestToScratch_37 ?_
        have hP := hP.sub (ws' := [(x, .inr (1, [.ref dg, .int (iI (zc)), .int (iI (pt)), .int (iI (zl)), .ref q])), (dg, .inl (cB, 1200, .inl g)), (q, .inr (0, [.ref pa, .int (iI ((sz : Int)))])), (pa, .inl (cI, 306, .inl f))]) [0, 1, 2, 3] rfl
        have hD := hD.sub (ws' := [(x, .inr (1, [.ref dg, .int (iI (zc)), .int (iI (pt)), .int (iI (zl)), .ref q])), (dg, .inl (cB, 1200, .inl g)), (q, .inr (0, [.ref pa, .int (iI ((sz : Int)))])), (pa, .inl (cI, 306, .inl f))]) [0, 1, 2, 3] (by decide) rfl
        have hVp : 0 < V := by rcases Nat.eq_zero_or_pos V with z | z; exact absurd (hd0.mpr z) (by omega); exact z
        exact W.lret (v := (jI (((ifz kf : Nat) : Int)))) hx hb hr (fun t9 ht9 hW9 => ⟨⟨(jI (((ifz kf : Nat) : Int))), [(x, .inr (1, [.ref dg, .int (iI (zc)), .int (iI (pt)), .int (iI (zl)), .ref q])), (dg, .inl (cB, 1200, .inl g)), (q, .inr (0, [.ref pa, .int (iI ((sz : Int)))])), (pa, .inl (cI, 306, .inl f))], rfl, ⟨⟨ifz kf, rfl, ns_large hkf (dl_pos hVp) (dl_le hVp) (by omega)⟩, f, _, rfl⟩, by rw [ht9]; exact hP, hD⟩, hS.F ht9⟩) hS.2.2 d_Ed_nearestToScratch_40
    · skip
      refine ed_pc (pc' := 24) rfl ?_
      refine lv_lconst (v := jI 0) hx hb d_Ed_nearestToScratch_24 (by decide +kernel) ?_
      have hsm : 2 * nP V ex kf < nM ex := by
        rcases Nat.eq_zero_or_pos V with z | z
        · rw [z]; exact ns_zero ex kf
        · exact ns_small hkf hVl (by have := dl_pos z; omega)
      have hP := hP.sub (ws' := [(x, .inr (1, [.ref dg, .int (iI (zc)), .int (iI (pt)), .int (iI (zl)), .ref q])), (dg, .inl (cB, 1200, .inl g)), (q, .inr (0, [.ref pa, .int (iI ((sz : Int)))])), (pa, .inl (cI, 306, .inl f))]) [0, 1, 2, 3] rfl
      have hD := hD.sub (ws' := [(x, .inr (1, [.ref dg, .int (iI (zc)), .int (iI (pt)), .int (iI (zl)), .ref q])), (dg, .inl (cB, 1200, .inl g)), (q, .inr (0, [.ref pa, .int (iI ((sz : Int)))])), (pa, .inl (cI, 306, .inl f))]) [0, 1, 2, 3] (by decide) rfl
      exact W.lret (v := (jI (0))) hx hb hr (fun t9 ht9 hW9 => ⟨⟨(jI (0)), [(x, .inr (1, [.ref dg, .int (iI (zc)), .int (iI (pt)), .int (iI (zl)), .ref q])), (dg, .inl (cB, 1200, .inl g)), (q, .inr (0, [.ref pa, .int (iI ((sz : Int)))])), (pa, .inl (cI, 306, .inl f))], rfl, ⟨⟨0, rfl, NR_small hsm⟩, f, _, rfl⟩, by rw [ht9]; exact hP, hD⟩, hS.F ht9⟩) hS.2.2 d_Ed_nearestToScratch_25
