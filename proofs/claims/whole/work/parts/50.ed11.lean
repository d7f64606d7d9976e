set_option maxHeartbeats 4000000 in
set_option maxRecDepth 100000 in
theorem c_Ed_shorten (l : Launch) (D : va_G) (cB cI cJ : ClassId) (t5 : Nat) (ad : Nat → Nat) (x dg q pa : Nat) (g f : Nat → Int32) (zs pt zl : Int) (X kf s0 E m0 : Nat) (hkf : kf < 2) (hnm : nm_ok g X) (hs0 : s0 = E * 2 ^ fbz kf + m0) (hxx : X = 0 ∨ EXA X pt kf E m0) (hpt : -1000000 ≤ pt ∧ pt ≤ 1000000) : c_V l m_Ed_shorten (Cond.code m_Ed_shorten b_Ed_shorten 8 none :: gw) (rm_ 5 140) (eX t5 ad) D ecl (tyS cB cI cJ) [.ref x, .long (jI ((s0 : Int))), .ref (ad kf)] [(x, .inr (1, [.ref dg, .int (iI (((dl X : Nat) : Int))), .int (iI (pt)), .int (iI (zl)), .ref q])), (dg, .inl (cB, 1200, .inl g)), (q, .inr (0, [.ref pa, .int (iI (zs))])), (pa, .inl (cI, 306, .inl f))] (fun u => ∃ (f' : Nat → Int32) (zs' : Int), (∃ (n v : Nat) (g' : Nat → Int32), 2 ≤ n ∧ n < dl X ∧ (∀ j, 2 ≤ j → j < n → NBno X j (pt - (j : Int)) kf s0) ∧ NBR X n (pt - (n : Int)) kf s0 v ∧ nm_ok g' (gvD v) ∧ u = [(x, .inr (1, [.ref dg, .int (iI (((dl (gvD v) : Nat) : Int))), .int (iI (if v = 0 then 0 else ((dl v : Nat) : Int) + (pt - (n : Int)))), .int (iI (hdb v (((dl v : Nat) : Int) - 1200))), .ref q])), (dg, .inl (cB, 1200, .inl g')), (q, .inr (0, [.ref pa, .int (iI (zs'))])), (pa, .inl (cI, 306, .inl f'))]) ∨ ((∀ j, 2 ≤ j → j < dl X → NBno X j (pt - (j : Int)) kf s0) ∧ u = [(x, .inr (1, [.ref dg, .int (iI (((dl X : Nat) : Int))), .int (iI (pt)), .int (iI (zl)), .ref q])), (dg, .inl (cB, 1200, .inl g)), (q, .inr (0, [.ref pa, .int (iI (zs'))])), (pa, .inl (cI, 306, .inl f'))])) 0 0 := by
  intro sz0
  refine Met.ofW (cc := b_Ed_shorten) (maxL := 8) (ret := none) (by decide) rfl ?_
  intro p e s m args below meth c s₁ B hml hv
  obtain ⟨rfl, hsz, hP, hK, hD0, hE⟩ := hv
  have hx := B.exec
  have hb := B.bytes
  have hr := B.returns
  have hts := atoms_spec (ws := Cond.code m_Ed_shorten b_Ed_shorten 8 none :: gw) B.pre
  have hown : s.vm.findClass R_Ed = some m.cls := findClass_of_methodNamed B.named
  have hlocks := B.notSynchronized
  subst hsz
  have hD := hD0.self (sz := s.heap.size)
  generalize hAe : va_A [(x, .inr (1, [.ref dg, .int (iI (((dl X : Nat) : Int))), .int (iI (pt)), .int (iI (zl)), .ref q])), (dg, .inl (cB, 1200, .inl g)), (q, .inr (0, [.ref pa, .int (iI (zs))])), (pa, .inl (cI, 306, .inl f))] s.heap.size = A at hD hE ⊢
  have hA : ∀ q : Nat, s.heap.size ≤ q → A q := fun q h => by rw [← hAe]; exact Or.inr h
  have hS : va_S A s.heap s.heap [] := va_S.rf
  have hl := lv_entry ([.ref x, .long (jI ((s0 : Int))), .ref (ad kf)]) (n := 8) (Nat.le_of_ble_eq_true rfl)
  rw [lg_entry_eq]
  generalize (lg_sl ([.ref x, .long (jI ((s0 : Int))), .ref (ad kf)]) ++ List.replicate (8 - (lg_sl ([.ref x, .long (jI ((s0 : Int))), .ref (ad kf)])).length) Slot.unset).toArray = ls at hl ⊢
  have hl : lv_has ls 8 [(0, .ref x), (1, .long (jI ((s0 : Int)))), (3, .ref (ad kf))] := hl
  have hX12 := hnm.1
  have hfz := fz_all kf hkf
  have hXL : 0 < dl X → EXA X pt kf E m0 := fun z => by rcases hxx with y | y; rw [y, dl_0] at z; omega; exact y
  have hs63 : 0 < dl X → s0 < ifz kf := fun z => by rw [hs0]; exact (hXL z).2.2.2.2.1
  have L14 : ∀ (n9 : Nat) (a : Nat) (b : Nat) (h : Nat → Int32) (za : Int) (zb : Int) (zh : Int) (ls : Array Slot) (H : Heap) (locs : List Loc), b - a = n9 → (za = (a : Int)) → (zb = (b : Int)) → (2 ≤ a) → (b ≤ dl X) → (b ≤ 17) → (∀ j, 2 ≤ j → j < a → j < dl X → NBno X j (pt - (j : Int)) kf s0) → (b < dl X → b < 17 → 2 ≤ b ∧ ¬ NBno X b (pt - (b : Int)) kf s0) → (b < a → a = 2 ∨ a = b + 1) → lv_has ls 8 [(0, .ref x), (1, .long (jI ((s0 : Int)))), (3, .ref (ad kf)), (4, .int (iI (za))), (5, .int (iI (zb)))] → va_P D ecl [(x, .inr (1, [.ref dg, .int (iI (((dl X : Nat) : Int))), .int (iI (pt)), .int (iI (zl)), .ref q])), (dg, .inl (cB, 1200, .inl g)), (q, .inr (0, [.ref pa, .int (iI (zh))])), (pa, .inl (cI, 306, .inl h))] H → va_D A [(x, .inr (1, [.ref dg, .int (iI (((dl X : Nat) : Int))), .int (iI (pt)), .int (iI (zl)), .ref q])), (dg, .inl (cB, 1200, .inl g)), (q, .inr (0, [.ref pa, .int (iI (zh))])), (pa, .inl (cI, 306, .inl h))] → va_S A s.heap H locs → W p l e (headSpec (Cond.code m_Ed_shorten b_Ed_shorten 8 none :: gw) (rm_ 5 140)).room s m ([.ref x, .long (jI ((s0 : Int))), .ref (ad kf)] : List Value).toArray below meth c H locs 0 0 (MQ below (va_Qv (fun u => ∃ (f' : Nat → Int32) (zs' : Int), (∃ (n v : Nat) (g' : Nat → Int32), 2 ≤ n ∧ n < dl X ∧ (∀ j, 2 ≤ j → j < n → NBno X j (pt - (j : Int)) kf s0) ∧ NBR X n (pt - (n : Int)) kf s0 v ∧ nm_ok g' (gvD v) ∧ u = [(x, .inr (1, [.ref dg, .int (iI (((dl (gvD v) : Nat) : Int))), .int (iI (if v = 0 then 0 else ((dl v : Nat) : Int) + (pt - (n : Int)))), .int (iI (hdb v (((dl v : Nat) : Int) - 1200))), .ref q])), (dg, .inl (cB, 1200, .inl g')), (q, .inr (0, [.ref pa, .int (iI (zs'))])), (pa, .inl (cI, 306, .inl f'))]) ∨ ((∀ j, 2 ≤ j → j < dl X → NBno X j (pt - (j : Int)) kf s0) ∧ u = [(x, .inr (1, [.ref dg, .int (iI (((dl X : Nat) : Int))), .int (iI (pt)), .int (iI (zl)), .ref q])), (dg, .inl (cB, 1200, .inl g)), (q, .inr (0, [.ref pa, .int (iI (zs'))])), (pa, .inl (cI, 306, .inl f'))])) (c_B D ecl A) A) ([.ref x, .long (jI ((s0 : Int))), .ref (ad kf)] : List Value).toArray s 0 0 A) (F0 m 14 ls []) := by
    intro n9
    induction n9 using Nat.strongRecOn with
    | ind n9 ih =>
    intro a b h za zb zh ls H locs hn9 hza hzb ha2 hbL hb17 hno hyes hab hl hP hD hS
    refine lv_iload hx hb d_Ed_shorten_14 (lv_at hl 3 rfl) ?_
    refine lv_iload hx hb d_Ed_shorten_16 (lv_at hl 4 rfl) ?_
    refine ed_icmp_ge (tgt := 61) hx hb d_Ed_shorten_18 rfl (by omega) (by omega) (fun h_1 => ?_) (fun h_1 => ?_)
    · skip
      refine ed_pc (pc' := 61) rfl ?_
      refine lv_iload hx hb d_Ed_shorten_61 (lv_at hl 4 rfl) ?_
      refine lv_aload_n hx hb d_Ed_shorten_63 rfl (lv_at hl 0 rfl) ?_
      refine va_get (D := D) (ci := 1) (v := .int (iI (((dl X : Nat) : Int)))) (C := R_Ed) (T := T_Ed) (N := 5) hx hb hts (fun w h => List.mem_cons_of_mem _ (in_Ed w h)) hown hK hP 0 rfl rfl 1 (by decide) (hts _ (List.mem_cons_of_mem _ tw_41)) (fun _ h9 => h9) rfl d_Ed_shorten_64 ?_
      refine ed_icmp_ge (tgt := 81) hx hb d_Ed_shorten_67 rfl (by omega) (by omega) (fun h_2 => ?_) (fun h_2 => ?_)
      · skip
        refine ed_pc (pc' := 81) rfl ?_
        refine ed_pc (pc' := 81) rfl ?_
        refine lv_ldc2 (v := (-1)) hx hb hown (hts _ (List.mem_cons_of_mem _ tw_272)) d_Ed_shorten_81 ?_
        refine ed_tl (y := (jI (-1))) (by decide +kernel) ?_
        refine lv_lstore hx hb d_Ed_shorten_84 hl (by decide) rfl (fun ls hl => ?_)
        have hl : lv_has ls 8 [(6, .long (jI (-1))), (0, .ref x), (1, .long (jI ((s0 : Int)))), (3, .ref (ad kf)), (4, .int (iI (za))), (5, .int (iI (zb)))] := hl
        refine lv_lload hx hb d_Ed_shorten_86 (lv_at hl 0 rfl) ?_
        refine lv_ldc2 (v := (-1)) hx hb hown (hts _ (List.mem_cons_of_mem _ tw_272)) d_Ed_shorten_88 ?_
        refine ed_tl (y := (jI (-1))) (by decide +kernel) ?_
        refine ed_lif_eq (tgt := 115) hx hb d_Ed_shorten_91 d_Ed_shorten_92 rfl (by omega) (by omega) (fun h_3 => ?_) (fun h_3 => ?_)
        · skip
          refine ed_pc (pc' := 115) rfl ?_
          exact W.vret hx hb hr (fun t9 ht9 hW9 => ⟨⟨[(x, .inr (1, [.ref dg, .int (iI (((dl X : Nat) : Int))), .int (iI (pt)), .int (iI (zl)), .ref q])), (dg, .inl (cB, 1200, .inl g)), (q, .inr (0, [.ref pa, .int (iI (zh))])), (pa, .inl (cI, 306, .inl h))], rfl, ⟨h, zh, Or.inr ⟨fun j h1 h2 => hno j h1 (by omega) h2, rfl⟩⟩, by rw [ht9]; exact hP, hD⟩, hS.F ht9⟩) hS.2.2 d_Ed_shorten_115
        · exact absurd h_3 (by omega)
      · skip
        refine ed_pc (pc' := 70) rfl ?_
        refine ed_pc (pc' := 70) rfl ?_
        refine lv_aload_n hx hb d_Ed_shorten_70 rfl (lv_at hl 0 rfl) ?_
        refine lv_iload hx hb d_Ed_shorten_71 (lv_at hl 4 rfl) ?_
        refine ed_tz (y := (b : Int)) (hzb) ?_
        refine lv_lload_n hx hb d_Ed_shorten_73 rfl (lv_at hl 1 rfl) ?_
        refine lv_aload_n hx hb d_Ed_shorten_74 rfl (lv_at hl 2 rfl) ?_
        have hb2 : 2 ≤ b ∧ ¬ NBno X b (pt - (b : Int)) kf s0 := by
          rcases Nat.lt_or_ge b 17 with z | z
          · exact hyes (by omega) z
          · have hb17e : b = 17 := by omega
            subst hb17e
            exact ⟨by omega, by rw [hs0]; exact NB_17 hkf (hXL (by omega)) (by omega)⟩
        refine c_fl (wc := [(x, .inr (1, [.ref dg, .int (iI (((dl X : Nat) : Int))), .int (iI (pt)), .int (iI (zl)), .ref q])), (dg, .inl (cB, 1200, .inl g)), (q, .inr (0, [.ref pa, .int (iI (zh))])), (pa, .inl (cI, 306, .inl h))]) (wr := []) (va_runV (C := "ExactDigits") (As := [.int (iI ((b : Int))), .long (jI ((s0 : Int))), .ref (ad kf)]) (rest := []) ⟨hx, hb, hml, hown, hts⟩ (c_Ed_neighbourReadBack l D cB cI cJ t5 ad x dg q pa g h zh pt zl X b kf s0 hkf hnm (by omega) (by omega) (by have := hs63 (by omega); omega) hpt H.size) (cwV 3 hts (gV tw_255 tw_257 ts_8 tw_1 tw_258) rfl rfl rfl (by decide +kernel) ⟨Nat.le_of_ble_eq_true rfl, Nat.le_of_ble_eq_true rfl⟩) ⟨c_blind (eX_X t5 ad), va_recv (ci := 1) (q0 := 0) hK hP rfl rfl, fun U hU hW => c_pre (wc := [(x, .inr (1, [.ref dg, .int (iI (((dl X : Nat) : Int))), .int (iI (pt)), .int (iI (zl)), .ref q])), (dg, .inl (cB, 1200, .inl g)), (q, .inr (0, [.ref pa, .int (iI (zh))])), (pa, .inl (cI, 306, .inl h))]) (eX_X t5 ad) hE hK hP hD hS hA [0, 1, 2, 3] rfl (by decide) U hU hW⟩ rfl rfl hl.1 rfl (lv_room (Nat.le_of_ble_eq_true rfl)) d_Ed_shorten_75 ⟨Nat.le_of_ble_eq_true rfl, Nat.le_of_ble_eq_true rfl⟩) hP hD hS hA [0, 1, 2, 3] [] rfl rfl (by decide) (by decide) (fun r u H locs hp hP hD hS => ?_)
        obtain ⟨hnb, f4, zs4, rfl⟩ := hp
        have hP : va_P D ecl [(x, .inr (1, [.ref dg, .int (iI (((dl X : Nat) : Int))), .int (iI (pt)), .int (iI (zl)), .ref q])), (dg, .inl (cB, 1200, .inl g)), (q, .inr (0, [.ref pa, .int (iI (zs4))])), (pa, .inl (cI, 306, .inl f4))] H := hP
        have hD : va_D A [(x, .inr (1, [.ref dg, .int (iI (((dl X : Nat) : Int))), .int (iI (pt)), .int (iI (zl)), .ref q])), (dg, .inl (cB, 1200, .inl g)), (q, .inr (0, [.ref pa, .int (iI (zs4))])), (pa, .inl (cI, 306, .inl f4))] := hD
        rcases hnb with ⟨v, rfl, hv⟩ | ⟨rfl, hnn⟩
        · skip
          have hvl : v < 9223372036854775807 := by have := nb_18 (X := X) (n := b) (by omega) (by omega); unfold NBR at hv; rcases hv with ⟨_, ⟨_, y1⟩ | ⟨_, _, y1⟩⟩ | ⟨_, ⟨_, y1⟩ | ⟨_, _, y1⟩⟩ <;> omega
          refine ed_pc (pc' := 78) rfl ?_
          refine lv_goto (tgt := 84) hx hb d_Ed_shorten_78 rfl ?_
          refine lv_lstore hx hb d_Ed_shorten_84 hl (by decide) rfl (fun ls hl => ?_)
          have hl : lv_has ls 8 [(6, .long (jI ((v : Int)))), (0, .ref x), (1, .long (jI ((s0 : Int)))), (3, .ref (ad kf)), (4, .int (iI (za))), (5, .int (iI (zb)))] := hl
          refine lv_lload hx hb d_Ed_shorten_86 (lv_at hl 0 rfl) ?_
          refine lv_ldc2 (v := (-1)) hx hb hown (hts _ (List.mem_cons_of_mem _ tw_272)) d_Ed_shorten_88 ?_
          refine ed_tl (y := (jI (-1))) (by decide +kernel) ?_
          refine ed_lif_eq (tgt := 115) hx hb d_Ed_shorten_91 d_Ed_shorten_92 rfl (by omega) (by omega) (fun h_4 => ?_) (fun h_4 => ?_)
          · exact absurd h_4 (by omega)
          · skip
            refine ed_pc (pc' := 95) rfl ?_
            refine lv_aload_n hx hb d_Ed_shorten_95 rfl (lv_at hl 1 rfl) ?_
            refine va_get (D := D) (ci := 1) (v := .ref q) (C := R_Ed) (T := T_Ed) (N := 5) hx hb hts (fun w h => List.mem_cons_of_mem _ (in_Ed w h)) hown hK hP 0 rfl rfl 4 (by decide) (hts _ (List.mem_cons_of_mem _ tw_44)) (fun _ h9 => h9) rfl d_Ed_shorten_96 ?_
            refine lv_lload hx hb d_Ed_shorten_99 (lv_at hl 0 rfl) ?_
            refine ed_tl (y := (lN v)) (jI_nat v) ?_
            refine ed_pc (pc' := 101) rfl ?_
            refine c_fv (wc := [(q, .inr (0, [.ref pa, .int (iI (zs4))])), (pa, .inl (cI, 306, .inl f4))]) (wr := [(x, .inr (1, [.ref dg, .int (iI (((dl X : Nat) : Int))), .int (iI (pt)), .int (iI (zl)), .ref q])), (dg, .inl (cB, 1200, .inl g))]) (va_runV (C := "ExactDigits$Natural") (As := [.long (lN v)]) (rest := []) ⟨hx, hb, hml, hown, hts⟩ (c_Na_setUnsigned l D cB cI cJ t5 ad q pa f4 zs4 v (by omega) H.size) (cwV 1 hts (gV tw_60 tw_61 tw_62 tw_2 tw_63) rfl rfl rfl (by decide +kernel) ⟨Nat.le_of_ble_eq_true rfl, Nat.le_of_ble_eq_true rfl⟩) ⟨c_blind (eX_X t5 ad), va_recv (ci := 0) (q0 := 2) hK hP rfl rfl, fun U hU hW => c_pre (wc := [(q, .inr (0, [.ref pa, .int (iI (zs4))])), (pa, .inl (cI, 306, .inl f4))]) (eX_X t5 ad) hE hK hP hD hS hA [2, 3] rfl (by decide) U hU hW⟩ rfl rfl hl.1 rfl (lv_room (Nat.le_of_ble_eq_true rfl)) d_Ed_shorten_101 ⟨Nat.le_of_ble_eq_true rfl, Nat.le_of_ble_eq_true rfl⟩) hP hD hS hA [2, 3] [0, 1] rfl rfl (by decide) (by decide) (fun u H locs hp hP hD hS => ?_)
            obtain ⟨f5, sz5, rfl, hok⟩ := hp
            have hP : va_P D ecl [(x, .inr (1, [.ref dg, .int (iI (((dl X : Nat) : Int))), .int (iI (pt)), .int (iI (zl)), .ref q])), (dg, .inl (cB, 1200, .inl g)), (q, .inr (0, [.ref pa, .int (iI ((sz5 : Int)))])), (pa, .inl (cI, 306, .inl f5))] H := hP
            have hD : va_D A [(x, .inr (1, [.ref dg, .int (iI (((dl X : Nat) : Int))), .int (iI (pt)), .int (iI (zl)), .ref q])), (dg, .inl (cB, 1200, .inl g)), (q, .inr (0, [.ref pa, .int (iI ((sz5 : Int)))])), (pa, .inl (cI, 306, .inl f5))] := hD
            refine lv_aload_n hx hb d_Ed_shorten_104 rfl (lv_at hl 1 rfl) ?_
            refine lv_aload_n hx hb d_Ed_shorten_105 rfl (lv_at hl 1 rfl) ?_
            refine va_get (D := D) (ci := 1) (v := .int (iI (pt))) (C := R_Ed) (T := T_Ed) (N := 5) hx hb hts (fun w h => List.mem_cons_of_mem _ (in_Ed w h)) hown hK hP 0 rfl rfl 2 (by decide) (hts _ (List.mem_cons_of_mem _ tw_42)) (fun _ h9 => h9) rfl d_Ed_shorten_106 ?_
            refine lv_iload hx hb d_Ed_shorten_109 (lv_at hl 5 rfl) ?_
            refine ed_tz (y := (b : Int)) (hzb) ?_
            refine ed_isub hx hb d_Ed_shorten_111 ?_
            refine c_fv (wc := [(x, .inr (1, [.ref dg, .int (iI (((dl X : Nat) : Int))), .int (iI (pt)), .int (iI (zl)), .ref q])), (dg, .inl (cB, 1200, .inl g)), (q, .inr (0, [.ref pa, .int (iI ((sz5 : Int)))])), (pa, .inl (cI, 306, .inl f5))]) (wr := []) (va_runV (C := "ExactDigits") (As := [.int (iI ((pt) - ((b : Int))))]) (rest := []) ⟨hx, hb, hml, hown, hts⟩ (c_Ed_giveScratch l D cB cI cJ t5 ad x dg q pa g f5 sz5 v ((dl X : Nat) : Int) pt zl (pt - (b : Int)) (by omega) hok H.size) (cwV 1 hts (gV tw_66 tw_68 ts_0 tw_1 tw_69) rfl rfl rfl (by decide +kernel) ⟨Nat.le_of_ble_eq_true rfl, Nat.le_of_ble_eq_true rfl⟩) ⟨c_blind (eX_X t5 ad), va_recv (ci := 1) (q0 := 0) hK hP rfl rfl, fun U hU hW => c_pre (wc := [(x, .inr (1, [.ref dg, .int (iI (((dl X : Nat) : Int))), .int (iI (pt)), .int (iI (zl)), .ref q])), (dg, .inl (cB, 1200, .inl g)), (q, .inr (0, [.ref pa, .int (iI ((sz5 : Int)))])), (pa, .inl (cI, 306, .inl f5))]) (eX_X t5 ad) hE hK hP hD hS hA [0, 1, 2, 3] rfl (by decide) U hU hW⟩ rfl rfl hl.1 rfl (lv_room (Nat.le_of_ble_eq_true rfl)) d_Ed_shorten_112 ⟨Nat.le_of_ble_eq_true rfl, Nat.le_of_ble_eq_true rfl⟩) hP hD hS hA [0, 1, 2, 3] [] rfl rfl (by decide) (by decide) (fun u H locs hp hP hD hS => ?_)
            obtain ⟨g6, hnm6, rfl⟩ := hp
            have hP : va_P D ecl [(x, .inr (1, [.ref dg, .int (iI (((dl (gvD v) : Nat) : Int))), .int (iI (if v = 0 then 0 else ((dl v : Nat) : Int) + (pt - (b : Int)))), .int (iI (hdb v (((dl v : Nat) : Int) - 1200))), .ref q])), (dg, .inl (cB, 1200, .inl g6)), (q, .inr (0, [.ref pa, .int (iI ((sz5 : Int)))])), (pa, .inl (cI, 306, .inl f5))] H := hP
            have hD : va_D A [(x, .inr (1, [.ref dg, .int (iI (((dl (gvD v) : Nat) : Int))), .int (iI (if v = 0 then 0 else ((dl v : Nat) : Int) + (pt - (b : Int)))), .int (iI (hdb v (((dl v : Nat) : Int) - 1200))), .ref q])), (dg, .inl (cB, 1200, .inl g6)), (q, .inr (0, [.ref pa, .int (iI ((sz5 : Int)))])), (pa, .inl (cI, 306, .inl f5))] := hD
            exact W.vret hx hb hr (fun t9 ht9 hW9 => ⟨⟨[(x, .inr (1, [.ref dg, .int (iI (((dl (gvD v) : Nat) : Int))), .int (iI (if v = 0 then 0 else ((dl v : Nat) : Int) + (pt - (b : Int)))), .int (iI (hdb v (((dl v : Nat) : Int) - 1200))), .ref q])), (dg, .inl (cB, 1200, .inl g6)), (q, .inr (0, [.ref pa, .int (iI ((sz5 : Int)))])), (pa, .inl (cI, 306, .inl f5))], rfl, ⟨f5, _, Or.inl ⟨b, v, g6, hb2.1, by omega, fun j h1 h2 => hno j h1 (by omega) (by omega), hv, hnm6, rfl⟩⟩, by rw [ht9]; exact hP, hD⟩, hS.F ht9⟩) hS.2.2 d_Ed_shorten_115
        · exact absurd hnn hb2.2
    · skip
      refine ed_pc (pc' := 21) rfl ?_
      refine lv_iload hx hb d_Ed_shorten_21 (lv_at hl 3 rfl) ?_
      refine lv_iload hx hb d_Ed_shorten_23 (lv_at hl 4 rfl) ?_
      refine ed_iadd hx hb d_Ed_shorten_25 ?_
      refine lv_iconst (v := iI 2) hx hb d_Ed_shorten_26 rfl ?_
      refine ed_pc (pc' := 27) rfl ?_
      refine ed_idiv hx hb d_Ed_shorten_27 (by omega) (by omega) (by omega) ?_
      obtain ⟨n, hn⟩ : ∃ n : Nat, n = (a + b) / 2 := ⟨_, rfl⟩
      refine ed_tz (y := (n : Int)) (by omega) ?_
      refine lv_istore hx hb d_Ed_shorten_28 hl (by decide) rfl (fun ls hl => ?_)
      have hl : lv_has ls 8 [(6, .int (iI ((n : Int)))), (0, .ref x), (1, .long (jI ((s0 : Int)))), (3, .ref (ad kf)), (4, .int (iI (za))), (5, .int (iI (zb)))] := hl
      refine lv_aload_n hx hb d_Ed_shorten_30 rfl (lv_at hl 1 rfl) ?_
      refine lv_iload hx hb d_Ed_shorten_31 (lv_at hl 0 rfl) ?_
      refine lv_lload_n hx hb d_Ed_shorten_33 rfl (lv_at hl 2 rfl) ?_
      refine lv_aload_n hx hb d_Ed_shorten_34 rfl (lv_at hl 3 rfl) ?_
      refine c_fl (wc := [(x, .inr (1, [.ref dg, .int (iI (((dl X : Nat) : Int))), .int (iI (pt)), .int (iI (zl)), .ref q])), (dg, .inl (cB, 1200, .inl g)), (q, .inr (0, [.ref pa, .int (iI (zh))])), (pa, .inl (cI, 306, .inl h))]) (wr := []) (va_runV (C := "ExactDigits") (As := [.int (iI ((n : Int))), .long (jI ((s0 : Int))), .ref (ad kf)]) (rest := []) ⟨hx, hb, hml, hown, hts⟩ (c_Ed_neighbourReadBack l D cB cI cJ t5 ad x dg q pa g h zh pt zl X n kf s0 hkf hnm (by omega) (by omega) (by have := hs63 (by omega); omega) hpt H.size) (cwV 3 hts (gV tw_255 tw_257 ts_8 tw_1 tw_258) rfl rfl rfl (by decide +kernel) ⟨Nat.le_of_ble_eq_true rfl, Nat.le_of_ble_eq_true rfl⟩) ⟨c_blind (eX_X t5 ad), va_recv (ci := 1) (q0 := 0) hK hP rfl rfl, fun U hU hW => c_pre (wc := [(x, .inr (1, [.ref dg, .int (iI (((dl X : Nat) : Int))), .int (iI (pt)), .int (iI (zl)), .ref q])), (dg, .inl (cB, 1200, .inl g)), (q, .inr (0, [.ref pa, .int (iI (zh))])), (pa, .inl (cI, 306, .inl h))]) (eX_X t5 ad) hE hK hP hD hS hA [0, 1, 2, 3] rfl (by decide) U hU hW⟩ rfl rfl hl.1 rfl (lv_room (Nat.le_of_ble_eq_true rfl)) d_Ed_shorten_35 ⟨Nat.le_of_ble_eq_true rfl, Nat.le_of_ble_eq_true rfl⟩) hP hD hS hA [0, 1, 2, 3] [] rfl rfl (by decide) (by decide) (fun r u H locs hp hP hD hS => ?_)
      obtain ⟨hnb, f4, zs4, rfl⟩ := hp
      have hP : va_P D ecl [(x, .inr (1, [.ref dg, .int (iI (((dl X : Nat) : Int))), .int (iI (pt)), .int (iI (zl)), .ref q])), (dg, .inl (cB, 1200, .inl g)), (q, .inr (0, [.ref pa, .int (iI (zs4))])), (pa, .inl (cI, 306, .inl f4))] H := hP
      have hD : va_D A [(x, .inr (1, [.ref dg, .int (iI (((dl X : Nat) : Int))), .int (iI (pt)), .int (iI (zl)), .ref q])), (dg, .inl (cB, 1200, .inl g)), (q, .inr (0, [.ref pa, .int (iI (zs4))])), (pa, .inl (cI, 306, .inl f4))] := hD
      rcases hnb with ⟨v, rfl, hv⟩ | ⟨rfl, hnn⟩
      · skip
        have hny : ¬ NBno X n (pt - (n : Int)) kf s0 := fun z => by unfold NBR at hv; unfold NBno at z; obtain ⟨z1, z2⟩ := z; rcases hv with ⟨_, ⟨y1, _⟩ | ⟨_, y1, _⟩⟩ | ⟨_, ⟨y1, _⟩ | ⟨_, y1, _⟩⟩ <;> first | exact z1 y1 | exact z2 y1
        have hvl : v < 9223372036854775807 := by have := nb_18 (X := X) (n := n) (by omega) (by omega); unfold NBR at hv; rcases hv with ⟨_, ⟨_, y1⟩ | ⟨_, _, y1⟩⟩ | ⟨_, ⟨_, y1⟩ | ⟨_, _, y1⟩⟩ <;> omega
        refine ed_pc (pc' := 38) rfl ?_
        refine lv_ldc2 (v := (-1)) hx hb hown (hts _ (List.mem_cons_of_mem _ tw_272)) d_Ed_shorten_38 ?_
        refine ed_tl (y := (jI (-1))) (by decide +kernel) ?_
        refine ed_lif_eq (tgt := 52) hx hb d_Ed_shorten_41 d_Ed_shorten_42 rfl (by omega) (by omega) (fun h_5 => ?_) (fun h_5 => ?_)
        · exact absurd h_5 (by omega)
        · skip
          refine ed_pc (pc' := 45) rfl ?_
          refine lv_iload hx hb d_Ed_shorten_45 (lv_at hl 0 rfl) ?_
          refine lv_istore hx hb d_Ed_shorten_47 hl (by decide) rfl (fun ls hl => ?_)
          have hl : lv_has ls 8 [(5, .int (iI ((n : Int)))), (6, .int (iI ((n : Int)))), (0, .ref x), (1, .long (jI ((s0 : Int)))), (3, .ref (ad kf)), (4, .int (iI (za)))] := hl
          refine lv_goto (tgt := 58) hx hb d_Ed_shorten_49 rfl ?_
          refine lv_goto (tgt := 14) hx hb d_Ed_shorten_58 rfl ?_
          have hl := lv_sub hl [2, 3, 4, 5, 0] rfl
          exact ih _ (by omega) (a) (n) (f4) _ _ _ ls H locs rfl (hza) (rfl) (ha2) (by omega) (by omega) (hno) (fun _ _ => ⟨by omega, hny⟩) (fun z => by omega) hl hP hD hS
      · skip
        refine ed_pc (pc' := 38) rfl ?_
        refine lv_ldc2 (v := (-1)) hx hb hown (hts _ (List.mem_cons_of_mem _ tw_272)) d_Ed_shorten_38 ?_
        refine ed_tl (y := (jI (-1))) (by decide +kernel) ?_
        refine ed_lif_eq (tgt := 52) hx hb d_Ed_shorten_41 d_Ed_shorten_42 rfl (by omega) (by omega) (fun h_6 => ?_) (fun h_6 => ?_)
        · skip
          refine ed_pc (pc' := 52) rfl ?_
          refine lv_iload hx hb d_Ed_shorten_52 (lv_at hl 0 rfl) ?_
          refine lv_iconst (v := iI 1) hx hb d_Ed_shorten_54 rfl ?_
          refine ed_iadd hx hb d_Ed_shorten_55 ?_
          refine lv_istore hx hb d_Ed_shorten_56 hl (by decide) rfl (fun ls hl => ?_)
          have hl : lv_has ls 8 [(4, .int (iI (((n : Int)) + (1)))), (6, .int (iI ((n : Int)))), (0, .ref x), (1, .long (jI ((s0 : Int)))), (3, .ref (ad kf)), (5, .int (iI (zb)))] := hl
          refine lv_goto (tgt := 14) hx hb d_Ed_shorten_58 rfl ?_
          have hl := lv_sub hl [2, 3, 4, 0, 5] rfl
          exact ih _ (by omega) (n + 1) (b) (f4) _ _ _ ls H locs rfl (by omega) (hzb) (by omega) (hbL) (hb17) (fun j h1 h2 h3 => by rw [hs0] at hnn ⊢; exact NB_mono hkf (hXL (by omega)) (by omega) (by omega) hnn) (hyes) (fun z => by omega) hl hP hD hS
        · exact absurd h_6 (by omega)
  refine lv_iconst (v := iI 2) hx hb d_Ed_shorten_0 rfl ?_
  refine lv_istore hx hb d_Ed_shorten_1 hl (by decide) rfl (fun ls hl => ?_)
  have hl : lv_has ls 8 [(4, .int (iI (2))), (0, .ref x), (1, .long (jI ((s0 : Int)))), (3, .ref (ad kf))] := hl
  refine lv_aload_n hx hb d_Ed_shorten_3 rfl (lv_at hl 1 rfl) ?_
  refine va_get (D := D) (ci := 1) (v := .int (iI (((dl X : Nat) : Int)))) (C := R_Ed) (T := T_Ed) (N := 5) hx hb hts (fun w h => List.mem_cons_of_mem _ (in_Ed w h)) hown hK hP 0 rfl rfl 1 (by decide) (hts _ (List.mem_cons_of_mem _ tw_41)) (fun _ h9 => h9) rfl d_Ed_shorten_4 ?_
  refine lv_bipush (v := iI 17) hx hb d_Ed_shorten_7 (by decide +kernel) ?_
  refine ed_min hx hb (hml.trans hl.1.symm) hown (hts _ (List.mem_cons_of_mem _ tw_86)) (hts _ (List.mem_cons_of_mem _ tw_84)) (hts _ (List.mem_cons_of_mem _ tw_6)) (hts _ (List.mem_cons_of_mem _ tw_85)) (Nat.le_of_ble_eq_true rfl) (Nat.le_of_ble_eq_true rfl) (Nat.le_of_ble_eq_true rfl) (Nat.le_of_ble_eq_true rfl) (by omega) (by omega) d_Ed_shorten_9 ?_
  refine lv_istore hx hb d_Ed_shorten_12 hl (by decide) rfl (fun ls hl => ?_)
  have hl : lv_has ls 8 [(5, .int (iI (min (((dl X : Nat) : Int)) (17)))), (4, .int (iI (2))), (0, .ref x), (1, .long (jI ((s0 : Int)))), (3, .ref (ad kf))] := hl
  have hl := lv_sub hl [2, 3, 4, 1, 0] rfl
  exact L14 _ (2) (min (dl X) 17) (f) _ _ _ ls s.heap [] rfl (rfl) (by omega) (by omega) (by omega) (by omega) (fun j h1 h2 _ => by omega) (fun h1 h2 => by omega) (fun _ => Or.inl rfl) hl hP hD hS
