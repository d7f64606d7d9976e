set_option maxHeartbeats 4000000 in
set_option maxRecDepth 100000 in
theorem c_Ed_neighbourReadBack (l : Launch) (D : va_G) (cB cI cJ : ClassId) (t5 : Nat) (ad : Nat → Nat) (x dg q pa : Nat) (g f : Nat → Int32) (zs pt zl : Int) (X n kf s0 : Nat) (hkf : kf < 2) (hnm : nm_ok g X) (hn : n < dl X) (h18 : n ≤ 18) (hs0 : s0 < 9223372036854775808) (hpt : -1000000 ≤ pt ∧ pt ≤ 1000000) : c_L l m_Ed_neighbourReadBack (Cond.code m_Ed_neighbourReadBack b_Ed_neighbourReadBack 11 (some .long) :: gw) (rm_ 4 110) (eX t5 ad) D ecl (tyS cB cI cJ) [.ref x, .int (iI ((n : Int))), .long (jI ((s0 : Int))), .ref (ad kf)] [(x, .inr (1, [.ref dg, .int (iI (((dl X : Nat) : Int))), .int (iI (pt)), .int (iI (zl)), .ref q])), (dg, .inl (cB, 1200, .inl g)), (q, .inr (0, [.ref pa, .int (iI (zs))])), (pa, .inl (cI, 306, .inl f))] (fun r u => ((∃ v : Nat, r = jI (v : Int) ∧ NBR X n (pt - (n : Int)) kf s0 v) ∨ (r = jI (-1) ∧ NBno X n (pt - (n : Int)) kf s0)) ∧ ∃ (f' : Nat → Int32) (zs' : Int), u = [(x, .inr (1, [.ref dg, .int (iI (((dl X : Nat) : Int))), .int (iI (pt)), .int (iI (zl)), .ref q])), (dg, .inl (cB, 1200, .inl g)), (q, .inr (0, [.ref pa, .int (iI (zs'))])), (pa, .inl (cI, 306, .inl f'))]) 0 0 := by
  intro sz0
  refine Met.ofW (cc := b_Ed_neighbourReadBack) (maxL := 11) (ret := (some .long)) (by decide) rfl ?_
  intro p e s m args below meth c s₁ B hml hv
  obtain ⟨rfl, hsz, hP, hK, hD0, hE⟩ := hv
  have hx := B.exec
  have hb := B.bytes
  have hr := B.returns
  have hts := atoms_spec (ws := Cond.code m_Ed_neighbourReadBack b_Ed_neighbourReadBack 11 (some .long) :: gw) B.pre
  have hown : s.vm.findClass R_Ed = some m.cls := findClass_of_methodNamed B.named
  have hlocks := B.notSynchronized
  subst hsz
  have hD := hD0.self (sz := s.heap.size)
  generalize hAe : va_A [(x, .inr (1, [.ref dg, .int (iI (((dl X : Nat) : Int))), .int (iI (pt)), .int (iI (zl)), .ref q])), (dg, .inl (cB, 1200, .inl g)), (q, .inr (0, [.ref pa, .int (iI (zs))])), (pa, .inl (cI, 306, .inl f))] s.heap.size = A at hD hE ⊢
  have hA : ∀ q : Nat, s.heap.size ≤ q → A q := fun q h => by rw [← hAe]; exact Or.inr h
  have hS : va_S A s.heap s.heap [] := va_S.rf
  have hl := lv_entry ([.ref x, .int (iI ((n : Int))), .long (jI ((s0 : Int))), .ref (ad kf)]) (n := 11) (Nat.le_of_ble_eq_true rfl)
  rw [lg_entry_eq]
  generalize (lg_sl ([.ref x, .int (iI ((n : Int))), .long (jI ((s0 : Int))), .ref (ad kf)]) ++ List.replicate (11 - (lg_sl ([.ref x, .int (iI ((n : Int))), .long (jI ((s0 : Int))), .ref (ad kf)])).length) Slot.unset).toArray = ls at hl ⊢
  have hl : lv_has ls 11 [(0, .ref x), (1, .int (iI ((n : Int)))), (2, .long (jI ((s0 : Int)))), (4, .ref (ad kf))] := hl
  have hX12 := hnm.1
  obtain ⟨bw, hbw⟩ : ∃ bw : Nat, bw = X / 10 ^ (dl X - n) := ⟨_, rfl⟩
  have hbl := nb_18 (X := X) (n := n) (by omega) h18
  rw [← hbw] at hbl
  refine lv_aload_n hx hb d_Ed_neighbourReadBack_0 rfl (lv_at hl 0 rfl) ?_
  refine lv_iload_n hx hb d_Ed_neighbourReadBack_1 rfl (lv_at hl 1 rfl) ?_
  refine c_fl (wc := [(x, .inr (1, [.ref dg, .int (iI (((dl X : Nat) : Int))), .int (iI (pt)), .int (iI (zl)), .ref q])), (dg, .inl (cB, 1200, .inl g))]) (wr := [(q, .inr (0, [.ref pa, .int (iI (zs))])), (pa, .inl (cI, 306, .inl f))]) (va_runV (C := "ExactDigits") (As := [.int (iI ((n : Int)))]) (rest := []) ⟨hx, hb, hml, hown, hts⟩ (c_Ed_firstDigits l D cB cI cJ t5 ad x dg q g pt zl X n hnm (by omega) h18 s.heap.size) (cwV 1 hts (gV tw_259 tw_261 ts_9 tw_1 tw_262) rfl rfl rfl (by decide +kernel) ⟨Nat.le_of_ble_eq_true rfl, Nat.le_of_ble_eq_true rfl⟩) ⟨c_blind (eX_X t5 ad), va_recv (ci := 1) (q0 := 0) hK hP rfl rfl, fun U hU hW => c_pre (wc := [(x, .inr (1, [.ref dg, .int (iI (((dl X : Nat) : Int))), .int (iI (pt)), .int (iI (zl)), .ref q])), (dg, .inl (cB, 1200, .inl g))]) (eX_X t5 ad) hE hK hP hD hS hA [0, 1] rfl (by decide) U hU hW⟩ rfl rfl hl.1 rfl (lv_room (Nat.le_of_ble_eq_true rfl)) d_Ed_neighbourReadBack_2 ⟨Nat.le_of_ble_eq_true rfl, Nat.le_of_ble_eq_true rfl⟩) hP hD hS hA [0, 1] [2, 3] rfl rfl (by decide) (by decide) (fun r u H locs hp hP hD hS => ?_)
  obtain ⟨rfl, rfl⟩ := hp
  have hP : va_P D ecl [(q, .inr (0, [.ref pa, .int (iI (zs))])), (pa, .inl (cI, 306, .inl f)), (x, .inr (1, [.ref dg, .int (iI (((dl X : Nat) : Int))), .int (iI (pt)), .int (iI (zl)), .ref q])), (dg, .inl (cB, 1200, .inl g))] H := hP
  have hD : va_D A [(q, .inr (0, [.ref pa, .int (iI (zs))])), (pa, .inl (cI, 306, .inl f)), (x, .inr (1, [.ref dg, .int (iI (((dl X : Nat) : Int))), .int (iI (pt)), .int (iI (zl)), .ref q])), (dg, .inl (cB, 1200, .inl g))] := hD
  refine ed_tj (y := (bw : Int)) (by rw [hbw]) ?_
  refine lv_lstore hx hb d_Ed_neighbourReadBack_5 hl (by decide) rfl (fun ls hl => ?_)
  have hl : lv_has ls 11 [(5, .long (jI ((bw : Int)))), (0, .ref x), (1, .int (iI ((n : Int)))), (2, .long (jI ((s0 : Int)))), (4, .ref (ad kf))] := hl
  refine lv_aload_n hx hb d_Ed_neighbourReadBack_7 rfl (lv_at hl 1 rfl) ?_
  refine lv_iload_n hx hb d_Ed_neighbourReadBack_8 rfl (lv_at hl 2 rfl) ?_
  refine lv_lload hx hb d_Ed_neighbourReadBack_9 (lv_at hl 0 rfl) ?_
  refine c_fi (wc := [(x, .inr (1, [.ref dg, .int (iI (((dl X : Nat) : Int))), .int (iI (pt)), .int (iI (zl)), .ref q])), (dg, .inl (cB, 1200, .inl g))]) (wr := [(q, .inr (0, [.ref pa, .int (iI (zs))])), (pa, .inl (cI, 306, .inl f))]) (va_runV (C := "ExactDigits") (As := [.int (iI ((n : Int))), .long (jI ((bw : Int)))]) (rest := []) ⟨hx, hb, hml, hown, hts⟩ (c_Ed_isNearerAbove l D cB cI cJ t5 ad x dg q g pt zl X n bw hnm hn hbw (by omega) H.size) (cwV 2 hts (gV tw_264 tw_266 ts_10 tw_1 tw_267) rfl rfl rfl (by decide +kernel) ⟨Nat.le_of_ble_eq_true rfl, Nat.le_of_ble_eq_true rfl⟩) ⟨c_blind (eX_X t5 ad), va_recv (ci := 1) (q0 := 2) hK hP rfl rfl, fun U hU hW => c_pre (wc := [(x, .inr (1, [.ref dg, .int (iI (((dl X : Nat) : Int))), .int (iI (pt)), .int (iI (zl)), .ref q])), (dg, .inl (cB, 1200, .inl g))]) (eX_X t5 ad) hE hK hP hD hS hA [2, 3] rfl (by decide) U hU hW⟩ rfl rfl hl.1 rfl (lv_room (Nat.le_of_ble_eq_true rfl)) d_Ed_neighbourReadBack_11 ⟨Nat.le_of_ble_eq_true rfl, Nat.le_of_ble_eq_true rfl⟩) hP hD hS hA [2, 3] [0, 1] rfl rfl (by decide) (by decide) (fun r u H locs hp hP hD hS => ?_)
  obtain ⟨hup, rfl⟩ := hp
  have hP : va_P D ecl [(q, .inr (0, [.ref pa, .int (iI (zs))])), (pa, .inl (cI, 306, .inl f)), (x, .inr (1, [.ref dg, .int (iI (((dl X : Nat) : Int))), .int (iI (pt)), .int (iI (zl)), .ref q])), (dg, .inl (cB, 1200, .inl g))] H := hP
  have hD : va_D A [(q, .inr (0, [.ref pa, .int (iI (zs))])), (pa, .inl (cI, 306, .inl f)), (x, .inr (1, [.ref dg, .int (iI (((dl X : Nat) : Int))), .int (iI (pt)), .int (iI (zl)), .ref q])), (dg, .inl (cB, 1200, .inl g))] := hD
  have hP := hP.sub (ws' := [(x, .inr (1, [.ref dg, .int (iI (((dl X : Nat) : Int))), .int (iI (pt)), .int (iI (zl)), .ref q])), (dg, .inl (cB, 1200, .inl g)), (q, .inr (0, [.ref pa, .int (iI (zs))])), (pa, .inl (cI, 306, .inl f))]) [2, 3, 0, 1] rfl
  have hD := hD.sub (ws' := [(x, .inr (1, [.ref dg, .int (iI (((dl X : Nat) : Int))), .int (iI (pt)), .int (iI (zl)), .ref q])), (dg, .inl (cB, 1200, .inl g)), (q, .inr (0, [.ref pa, .int (iI (zs))])), (pa, .inl (cI, 306, .inl f))]) [2, 3, 0, 1] (by decide) rfl
  rcases hup with ⟨rfl, hup⟩ | ⟨rfl, hup⟩
  · skip
    refine ed_pc (pc' := 14) rfl ?_
    refine ed_if_eq (tgt := 24) hx hb d_Ed_neighbourReadBack_14 rfl (by omega) (fun h_1 => ?_) (fun h_1 => ?_)
    · exact absurd h_1 (by omega)
    · skip
      refine ed_pc (pc' := 17) rfl ?_
      refine lv_lload hx hb d_Ed_neighbourReadBack_17 (lv_at hl 0 rfl) ?_
      refine lv_lconst (v := jI 1) hx hb d_Ed_neighbourReadBack_19 (by decide +kernel) ?_
      refine ed_ladd hx hb d_Ed_neighbourReadBack_20 ?_
      refine lv_goto (tgt := 26) hx hb d_Ed_neighbourReadBack_21 rfl ?_
      refine ed_tj (y := ((bw + 1 : Nat) : Int)) (by omega) ?_
      refine lv_lstore hx hb d_Ed_neighbourReadBack_26 hl (by decide) rfl (fun ls hl => ?_)
      have hl : lv_has ls 11 [(7, .long (jI (((bw + 1 : Nat) : Int)))), (5, .long (jI ((bw : Int)))), (0, .ref x), (1, .int (iI ((n : Int)))), (2, .long (jI ((s0 : Int)))), (4, .ref (ad kf))] := hl
      refine lv_lload hx hb d_Ed_neighbourReadBack_28 (lv_at hl 0 rfl) ?_
      refine lv_lload hx hb d_Ed_neighbourReadBack_30 (lv_at hl 1 rfl) ?_
      refine ed_pc (pc' := 32) rfl ?_
      refine ed_lif_ne (tgt := 43) hx hb d_Ed_neighbourReadBack_32 d_Ed_neighbourReadBack_33 rfl (by omega) (by omega) (fun h_2 => ?_) (fun h_2 => ?_)
      · skip
        refine ed_pc (pc' := 43) rfl ?_
        refine lv_lload hx hb d_Ed_neighbourReadBack_43 (lv_at hl 1 rfl) ?_
        refine lv_lstore hx hb d_Ed_neighbourReadBack_45 hl (by decide) rfl (fun ls hl => ?_)
        have hl : lv_has ls 11 [(9, .long (jI ((bw : Int)))), (7, .long (jI (((bw + 1 : Nat) : Int)))), (5, .long (jI ((bw : Int)))), (0, .ref x), (1, .int (iI ((n : Int)))), (2, .long (jI ((s0 : Int)))), (4, .ref (ad kf))] := hl
        refine lv_aload_n hx hb d_Ed_neighbourReadBack_47 rfl (lv_at hl 3 rfl) ?_
        refine lv_lload hx hb d_Ed_neighbourReadBack_48 (lv_at hl 1 rfl) ?_
        refine lv_aload_n hx hb d_Ed_neighbourReadBack_50 rfl (lv_at hl 3 rfl) ?_
        refine va_get (D := D) (ci := 1) (v := .int (iI (pt))) (C := R_Ed) (T := T_Ed) (N := 5) hx hb hts (fun w h => List.mem_cons_of_mem _ (in_Ed w h)) hown hK hP 0 rfl rfl 2 (by decide) (hts _ (List.mem_cons_of_mem _ tw_42)) (fun _ h9 => h9) rfl d_Ed_neighbourReadBack_51 ?_
        refine lv_iload_n hx hb d_Ed_neighbourReadBack_54 rfl (lv_at hl 4 rfl) ?_
        refine ed_pc (pc' := 55) rfl ?_
        refine ed_isub hx hb d_Ed_neighbourReadBack_55 ?_
        refine lv_lload_n hx hb d_Ed_neighbourReadBack_56 rfl (lv_at hl 5 rfl) ?_
        refine lv_aload hx hb d_Ed_neighbourReadBack_57 (lv_at hl 6 rfl) ?_
        refine c_fi (wc := [(x, .inr (1, [.ref dg, .int (iI (((dl X : Nat) : Int))), .int (iI (pt)), .int (iI (zl)), .ref q])), (dg, .inl (cB, 1200, .inl g)), (q, .inr (0, [.ref pa, .int (iI (zs))])), (pa, .inl (cI, 306, .inl f))]) (wr := []) (va_runV (C := "ExactDigits") (As := [.long (jI (((bw + 1 : Nat) : Int))), .int (iI ((pt) - ((n : Int)))), .long (jI ((s0 : Int))), .ref (ad kf)]) (rest := []) ⟨hx, hb, hml, hown, hts⟩ (c_Ed_readsBack l D cB cI cJ t5 ad x dg q pa g f (zs) ((dl X : Nat) : Int) pt zl (pt - (n : Int)) (bw + 1) kf s0 hkf (by omega) hs0 (by omega) H.size) (cwV 4 hts (gV tw_268 tw_270 ts_11 tw_1 tw_271) rfl rfl rfl (by decide +kernel) ⟨Nat.le_of_ble_eq_true rfl, Nat.le_of_ble_eq_true rfl⟩) ⟨c_blind (eX_X t5 ad), va_recv (ci := 1) (q0 := 0) hK hP rfl rfl, fun U hU hW => c_pre (wc := [(x, .inr (1, [.ref dg, .int (iI (((dl X : Nat) : Int))), .int (iI (pt)), .int (iI (zl)), .ref q])), (dg, .inl (cB, 1200, .inl g)), (q, .inr (0, [.ref pa, .int (iI (zs))])), (pa, .inl (cI, 306, .inl f))]) (eX_X t5 ad) hE hK hP hD hS hA [0, 1, 2, 3] rfl (by decide) U hU hW⟩ rfl rfl hl.1 rfl (lv_room (Nat.le_of_ble_eq_true rfl)) d_Ed_neighbourReadBack_59 ⟨Nat.le_of_ble_eq_true rfl, Nat.le_of_ble_eq_true rfl⟩) hP hD hS hA [0, 1, 2, 3] [] rfl rfl (by decide) (by decide) (fun r u H locs hp hP hD hS => ?_)
        obtain ⟨hrb1, f1, zs1, rfl⟩ := hp
        have hP : va_P D ecl [(x, .inr (1, [.ref dg, .int (iI (((dl X : Nat) : Int))), .int (iI (pt)), .int (iI (zl)), .ref q])), (dg, .inl (cB, 1200, .inl g)), (q, .inr (0, [.ref pa, .int (iI (zs1))])), (pa, .inl (cI, 306, .inl f1))] H := hP
        have hD : va_D A [(x, .inr (1, [.ref dg, .int (iI (((dl X : Nat) : Int))), .int (iI (pt)), .int (iI (zl)), .ref q])), (dg, .inl (cB, 1200, .inl g)), (q, .inr (0, [.ref pa, .int (iI (zs1))])), (pa, .inl (cI, 306, .inl f1))] := hD
        rcases hrb1 with ⟨rfl, hrb1⟩ | ⟨rfl, hrb1⟩
        · skip
          refine ed_pc (pc' := 62) rfl ?_
          refine ed_if_eq (tgt := 68) hx hb d_Ed_neighbourReadBack_62 rfl (by omega) (fun h_3 => ?_) (fun h_3 => ?_)
          · exact absurd h_3 (by omega)
          · skip
            refine ed_pc (pc' := 65) rfl ?_
            refine lv_lload hx hb d_Ed_neighbourReadBack_65 (lv_at hl 1 rfl) ?_
            exact W.lret (v := (jI (((bw + 1 : Nat) : Int)))) hx hb hr (fun t9 ht9 hW9 => ⟨⟨(jI (((bw + 1 : Nat) : Int))), [(x, .inr (1, [.ref dg, .int (iI (((dl X : Nat) : Int))), .int (iI (pt)), .int (iI (zl)), .ref q])), (dg, .inl (cB, 1200, .inl g)), (q, .inr (0, [.ref pa, .int (iI (zs1))])), (pa, .inl (cI, 306, .inl f1))], rfl, ⟨Or.inl ⟨bw + 1, rfl, by unfold NBR; rw [← hbw]; exact Or.inl ⟨hup, Or.inl ⟨hrb1, rfl⟩⟩⟩, f1, zs1, rfl⟩, by rw [ht9]; exact hP, hD⟩, hS.F ht9⟩) hS.2.2 d_Ed_neighbourReadBack_67
        · skip
          refine ed_pc (pc' := 62) rfl ?_
          refine ed_if_eq (tgt := 68) hx hb d_Ed_neighbourReadBack_62 rfl (by omega) (fun h_4 => ?_) (fun h_4 => ?_)
          · skip
            refine ed_pc (pc' := 68) rfl ?_
            refine lv_aload_n hx hb d_Ed_neighbourReadBack_68 rfl (lv_at hl 3 rfl) ?_
            refine lv_lload hx hb d_Ed_neighbourReadBack_69 (lv_at hl 0 rfl) ?_
            refine lv_aload_n hx hb d_Ed_neighbourReadBack_71 rfl (lv_at hl 3 rfl) ?_
            refine va_get (D := D) (ci := 1) (v := .int (iI (pt))) (C := R_Ed) (T := T_Ed) (N := 5) hx hb hts (fun w h => List.mem_cons_of_mem _ (in_Ed w h)) hown hK hP 0 rfl rfl 2 (by decide) (hts _ (List.mem_cons_of_mem _ tw_42)) (fun _ h9 => h9) rfl d_Ed_neighbourReadBack_72 ?_
            refine lv_iload_n hx hb d_Ed_neighbourReadBack_75 rfl (lv_at hl 4 rfl) ?_
            refine ed_isub hx hb d_Ed_neighbourReadBack_76 ?_
            refine lv_lload_n hx hb d_Ed_neighbourReadBack_77 rfl (lv_at hl 5 rfl) ?_
            refine ed_pc (pc' := 78) rfl ?_
            refine lv_aload hx hb d_Ed_neighbourReadBack_78 (lv_at hl 6 rfl) ?_
            refine c_fi (wc := [(x, .inr (1, [.ref dg, .int (iI (((dl X : Nat) : Int))), .int (iI (pt)), .int (iI (zl)), .ref q])), (dg, .inl (cB, 1200, .inl g)), (q, .inr (0, [.ref pa, .int (iI (zs1))])), (pa, .inl (cI, 306, .inl f1))]) (wr := []) (va_runV (C := "ExactDigits") (As := [.long (jI ((bw : Int))), .int (iI ((pt) - ((n : Int)))), .long (jI ((s0 : Int))), .ref (ad kf)]) (rest := []) ⟨hx, hb, hml, hown, hts⟩ (c_Ed_readsBack l D cB cI cJ t5 ad x dg q pa g f1 (zs1) ((dl X : Nat) : Int) pt zl (pt - (n : Int)) bw kf s0 hkf (by omega) hs0 (by omega) H.size) (cwV 4 hts (gV tw_268 tw_270 ts_11 tw_1 tw_271) rfl rfl rfl (by decide +kernel) ⟨Nat.le_of_ble_eq_true rfl, Nat.le_of_ble_eq_true rfl⟩) ⟨c_blind (eX_X t5 ad), va_recv (ci := 1) (q0 := 0) hK hP rfl rfl, fun U hU hW => c_pre (wc := [(x, .inr (1, [.ref dg, .int (iI (((dl X : Nat) : Int))), .int (iI (pt)), .int (iI (zl)), .ref q])), (dg, .inl (cB, 1200, .inl g)), (q, .inr (0, [.ref pa, .int (iI (zs1))])), (pa, .inl (cI, 306, .inl f1))]) (eX_X t5 ad) hE hK hP hD hS hA [0, 1, 2, 3] rfl (by decide) U hU hW⟩ rfl rfl hl.1 rfl (lv_room (Nat.le_of_ble_eq_true rfl)) d_Ed_neighbourReadBack_80 ⟨Nat.le_of_ble_eq_true rfl, Nat.le_of_ble_eq_true rfl⟩) hP hD hS hA [0, 1, 2, 3] [] rfl rfl (by decide) (by decide) (fun r u H locs hp hP hD hS => ?_)
            obtain ⟨hrb2, f2, zs2, rfl⟩ := hp
            have hP : va_P D ecl [(x, .inr (1, [.ref dg, .int (iI (((dl X : Nat) : Int))), .int (iI (pt)), .int (iI (zl)), .ref q])), (dg, .inl (cB, 1200, .inl g)), (q, .inr (0, [.ref pa, .int (iI (zs2))])), (pa, .inl (cI, 306, .inl f2))] H := hP
            have hD : va_D A [(x, .inr (1, [.ref dg, .int (iI (((dl X : Nat) : Int))), .int (iI (pt)), .int (iI (zl)), .ref q])), (dg, .inl (cB, 1200, .inl g)), (q, .inr (0, [.ref pa, .int (iI (zs2))])), (pa, .inl (cI, 306, .inl f2))] := hD
            rcases hrb2 with ⟨rfl, hrb2⟩ | ⟨rfl, hrb2⟩
            · skip
              refine ed_pc (pc' := 83) rfl ?_
              refine ed_if_eq (tgt := 91) hx hb d_Ed_neighbourReadBack_83 rfl (by omega) (fun h_5 => ?_) (fun h_5 => ?_)
              · exact absurd h_5 (by omega)
              · skip
                refine ed_pc (pc' := 86) rfl ?_
                refine lv_lload hx hb d_Ed_neighbourReadBack_86 (lv_at hl 0 rfl) ?_
                refine lv_goto (tgt := 94) hx hb d_Ed_neighbourReadBack_88 rfl ?_
                exact W.lret (v := (jI ((bw : Int)))) hx hb hr (fun t9 ht9 hW9 => ⟨⟨(jI ((bw : Int))), [(x, .inr (1, [.ref dg, .int (iI (((dl X : Nat) : Int))), .int (iI (pt)), .int (iI (zl)), .ref q])), (dg, .inl (cB, 1200, .inl g)), (q, .inr (0, [.ref pa, .int (iI (zs2))])), (pa, .inl (cI, 306, .inl f2))], rfl, ⟨Or.inl ⟨bw, rfl, by unfold NBR; rw [← hbw]; exact Or.inl ⟨hup, Or.inr ⟨hrb1, hrb2, rfl⟩⟩⟩, f2, zs2, rfl⟩, by rw [ht9]; exact hP, hD⟩, hS.F ht9⟩) hS.2.2 d_Ed_neighbourReadBack_94
            · skip
              refine ed_pc (pc' := 83) rfl ?_
              refine ed_if_eq (tgt := 91) hx hb d_Ed_neighbourReadBack_83 rfl (by omega) (fun h_6 => ?_) (fun h_6 => ?_)
              · skip
                refine ed_pc (pc' := 91) rfl ?_
                refine lv_ldc2 (v := (-1)) hx hb hown (hts _ (List.mem_cons_of_mem _ tw_272)) d_Ed_neighbourReadBack_91 ?_
                refine ed_tl (y := (jI (-1))) (by decide +kernel) ?_
                exact W.lret (v := (jI (-1))) hx hb hr (fun t9 ht9 hW9 => ⟨⟨(jI (-1)), [(x, .inr (1, [.ref dg, .int (iI (((dl X : Nat) : Int))), .int (iI (pt)), .int (iI (zl)), .ref q])), (dg, .inl (cB, 1200, .inl g)), (q, .inr (0, [.ref pa, .int (iI (zs2))])), (pa, .inl (cI, 306, .inl f2))], rfl, ⟨Or.inr ⟨rfl, by unfold NBno; rw [← hbw]; exact ⟨hrb2, hrb1⟩⟩, f2, zs2, rfl⟩, by rw [ht9]; exact hP, hD⟩, hS.F ht9⟩) hS.2.2 d_Ed_neighbourReadBack_94
              · exact absurd h_6 (by omega)
          · exact absurd h_4 (by omega)
      · exact absurd h_2 (by omega)
  · skip
    refine ed_pc (pc' := 14) rfl ?_
    refine ed_if_eq (tgt := 24) hx hb d_Ed_neighbourReadBack_14 rfl (by omega) (fun h_7 => ?_) (fun h_7 => ?_)
    · skip
      refine ed_pc (pc' := 24) rfl ?_
      refine lv_lload hx hb d_Ed_neighbourReadBack_24 (lv_at hl 0 rfl) ?_
      refine lv_lstore hx hb d_Ed_neighbourReadBack_26 hl (by decide) rfl (fun ls hl => ?_)
      have hl : lv_has ls 11 [(7, .long (jI ((bw : Int)))), (5, .long (jI ((bw : Int)))), (0, .ref x), (1, .int (iI ((n : Int)))), (2, .long (jI ((s0 : Int)))), (4, .ref (ad kf))] := hl
      refine lv_lload hx hb d_Ed_neighbourReadBack_28 (lv_at hl 0 rfl) ?_
      refine lv_lload hx hb d_Ed_neighbourReadBack_30 (lv_at hl 1 rfl) ?_
      refine ed_lif_ne (tgt := 43) hx hb d_Ed_neighbourReadBack_32 d_Ed_neighbourReadBack_33 rfl (by omega) (by omega) (fun h_8 => ?_) (fun h_8 => ?_)
      · exact absurd h_8 (by omega)
      · skip
        refine ed_pc (pc' := 36) rfl ?_
        refine lv_lload hx hb d_Ed_neighbourReadBack_36 (lv_at hl 1 rfl) ?_
        refine lv_lconst (v := jI 1) hx hb d_Ed_neighbourReadBack_38 (by decide +kernel) ?_
        refine ed_pc (pc' := 39) rfl ?_
        refine ed_ladd hx hb d_Ed_neighbourReadBack_39 ?_
        refine lv_goto (tgt := 45) hx hb d_Ed_neighbourReadBack_40 rfl ?_
        refine ed_tj (y := ((bw + 1 : Nat) : Int)) (by omega) ?_
        refine lv_lstore hx hb d_Ed_neighbourReadBack_45 hl (by decide) rfl (fun ls hl => ?_)
        have hl : lv_has ls 11 [(9, .long (jI (((bw + 1 : Nat) : Int)))), (7, .long (jI ((bw : Int)))), (5, .long (jI ((bw : Int)))), (0, .ref x), (1, .int (iI ((n : Int)))), (2, .long (jI ((s0 : Int)))), (4, .ref (ad kf))] := hl
        refine lv_aload_n hx hb d_Ed_neighbourReadBack_47 rfl (lv_at hl 3 rfl) ?_
        refine lv_lload hx hb d_Ed_neighbourReadBack_48 (lv_at hl 1 rfl) ?_
        refine lv_aload_n hx hb d_Ed_neighbourReadBack_50 rfl (lv_at hl 3 rfl) ?_
        refine va_get (D := D) (ci := 1) (v := .int (iI (pt))) (C := R_Ed) (T := T_Ed) (N := 5) hx hb hts (fun w h => List.mem_cons_of_mem _ (in_Ed w h)) hown hK hP 0 rfl rfl 2 (by decide) (hts _ (List.mem_cons_of_mem _ tw_42)) (fun _ h9 => h9) rfl d_Ed_neighbourReadBack_51 ?_
        refine lv_iload_n hx hb d_Ed_neighbourReadBack_54 rfl (lv_at hl 4 rfl) ?_
        refine ed_pc (pc' := 55) rfl ?_
        refine ed_isub hx hb d_Ed_neighbourReadBack_55 ?_
        refine lv_lload_n hx hb d_Ed_neighbourReadBack_56 rfl (lv_at hl 5 rfl) ?_
        refine lv_aload hx hb d_Ed_neighbourReadBack_57 (lv_at hl 6 rfl) ?_
        refine c_fi (wc := [(x, .inr (1, [.ref dg, .int (iI (((dl X : Nat) : Int))), .int (iI (pt)), .int (iI (zl)), .ref q])), (dg, .inl (cB, 1200, .inl g)), (q, .inr (0, [.ref pa, .int (iI (zs))])), (pa, .inl (cI, 306, .inl f))]) (wr := []) (va_runV (C := "ExactDigits") (As := [.long (jI ((bw : Int))), .int (iI ((pt) - ((n : Int)))), .long (jI ((s0 : Int))), .ref (ad kf)]) (rest := []) ⟨hx, hb, hml, hown, hts⟩ (c_Ed_readsBack l D cB cI cJ t5 ad x dg q pa g f (zs) ((dl X : Nat) : Int) pt zl (pt - (n : Int)) bw kf s0 hkf (by omega) hs0 (by omega) H.size) (cwV 4 hts (gV tw_268 tw_270 ts_11 tw_1 tw_271) rfl rfl rfl (by decide +kernel) ⟨Nat.le_of_ble_eq_true rfl, Nat.le_of_ble_eq_true rfl⟩) ⟨c_blind (eX_X t5 ad), va_recv (ci := 1) (q0 := 0) hK hP rfl rfl, fun U hU hW => c_pre (wc := [(x, .inr (1, [.ref dg, .int (iI (((dl X : Nat) : Int))), .int (iI (pt)), .int (iI (zl)), .ref q])), (dg, .inl (cB, 1200, .inl g)), (q, .inr (0, [.ref pa, .int (iI (zs))])), (pa, .inl (cI, 306, .inl f))]) (eX_X t5 ad) hE hK hP hD hS hA [0, 1, 2, 3] rfl (by decide) U hU hW⟩ rfl rfl hl.1 rfl (lv_room (Nat.le_of_ble_eq_true rfl)) d_Ed_neighbourReadBack_59 ⟨Nat.le_of_ble_eq_true rfl, Nat.le_of_ble_eq_true rfl⟩) hP hD hS hA [0, 1, 2, 3] [] rfl rfl (by decide) (by decide) (fun r u H locs hp hP hD hS => ?_)
        obtain ⟨hrb1, f1, zs1, rfl⟩ := hp
        have hP : va_P D ecl [(x, .inr (1, [.ref dg, .int (iI (((dl X : Nat) : Int))), .int (iI (pt)), .int (iI (zl)), .ref q])), (dg, .inl (cB, 1200, .inl g)), (q, .inr (0, [.ref pa, .int (iI (zs1))])), (pa, .inl (cI, 306, .inl f1))] H := hP
        have hD : va_D A [(x, .inr (1, [.ref dg, .int (iI (((dl X : Nat) : Int))), .int (iI (pt)), .int (iI (zl)), .ref q])), (dg, .inl (cB, 1200, .inl g)), (q, .inr (0, [.ref pa, .int (iI (zs1))])), (pa, .inl (cI, 306, .inl f1))] := hD
        rcases hrb1 with ⟨rfl, hrb1⟩ | ⟨rfl, hrb1⟩
        · skip
          refine ed_pc (pc' := 62) rfl ?_
          refine ed_if_eq (tgt := 68) hx hb d_Ed_neighbourReadBack_62 rfl (by omega) (fun h_9 => ?_) (fun h_9 => ?_)
          · exact absurd h_9 (by omega)
          · skip
            refine ed_pc (pc' := 65) rfl ?_
            refine lv_lload hx hb d_Ed_neighbourReadBack_65 (lv_at hl 1 rfl) ?_
            exact W.lret (v := (jI ((bw : Int)))) hx hb hr (fun t9 ht9 hW9 => ⟨⟨(jI ((bw : Int))), [(x, .inr (1, [.ref dg, .int (iI (((dl X : Nat) : Int))), .int (iI (pt)), .int (iI (zl)), .ref q])), (dg, .inl (cB, 1200, .inl g)), (q, .inr (0, [.ref pa, .int (iI (zs1))])), (pa, .inl (cI, 306, .inl f1))], rfl, ⟨Or.inl ⟨bw, rfl, by unfold NBR; rw [← hbw]; exact Or.inr ⟨hup, Or.inl ⟨hrb1, rfl⟩⟩⟩, f1, zs1, rfl⟩, by rw [ht9]; exact hP, hD⟩, hS.F ht9⟩) hS.2.2 d_Ed_neighbourReadBack_67
        · skip
          refine ed_pc (pc' := 62) rfl ?_
          refine ed_if_eq (tgt := 68) hx hb d_Ed_neighbourReadBack_62 rfl (by omega) (fun h_10 => ?_) (fun h_10 => ?_)
          · skip
            refine ed_pc (pc' := 68) rfl ?_
            refine lv_aload_n hx hb d_Ed_neighbourReadBack_68 rfl (lv_at hl 3 rfl) ?_
            refine lv_lload hx hb d_Ed_neighbourReadBack_69 (lv_at hl 0 rfl) ?_
            refine lv_aload_n hx hb d_Ed_neighbourReadBack_71 rfl (lv_at hl 3 rfl) ?_
            refine va_get (D := D) (ci := 1) (v := .int (iI (pt))) (C := R_Ed) (T := T_Ed) (N := 5) hx hb hts (fun w h => List.mem_cons_of_mem _ (in_Ed w h)) hown hK hP 0 rfl rfl 2 (by decide) (hts _ (List.mem_cons_of_mem _ tw_42)) (fun _ h9 => h9) rfl d_Ed_neighbourReadBack_72 ?_
            refine lv_iload_n hx hb d_Ed_neighbourReadBack_75 rfl (lv_at hl 4 rfl) ?_
            refine ed_isub hx hb d_Ed_neighbourReadBack_76 ?_
            refine lv_lload_n hx hb d_Ed_neighbourReadBack_77 rfl (lv_at hl 5 rfl) ?_
            refine ed_pc (pc' := 78) rfl ?_
            refine lv_aload hx hb d_Ed_neighbourReadBack_78 (lv_at hl 6 rfl) ?_
            refine c_fi (wc := [(x, .inr (1, [.ref dg, .int (iI (((dl X : Nat) : Int))), .int (iI (pt)), .int (iI (zl)), .ref q])), (dg, .inl (cB, 1200, .inl g)), (q, .inr (0, [.ref pa, .int (iI (zs1))])), (pa, .inl (cI, 306, .inl f1))]) (wr := []) (va_runV (C := "ExactDigits") (As := [.long (jI (((bw + 1 : Nat) : Int))), .int (iI ((pt) - ((n : Int)))), .long (jI ((s0 : Int))), .ref (ad kf)]) (rest := []) ⟨hx, hb, hml, hown, hts⟩ (c_Ed_readsBack l D cB cI cJ t5 ad x dg q pa g f1 (zs1) ((dl X : Nat) : Int) pt zl (pt - (n : Int)) (bw + 1) kf s0 hkf (by omega) hs0 (by omega) H.size) (cwV 4 hts (gV tw_268 tw_270 ts_11 tw_1 tw_271) rfl rfl rfl (by decide +kernel) ⟨Nat.le_of_ble_eq_true rfl, Nat.le_of_ble_eq_true rfl⟩) ⟨c_blind (eX_X t5 ad), va_recv (ci := 1) (q0 := 0) hK hP rfl rfl, fun U hU hW => c_pre (wc := [(x, .inr (1, [.ref dg, .int (iI (((dl X : Nat) : Int))), .int (iI (pt)), .int (iI (zl)), .ref q])), (dg, .inl (cB, 1200, .inl g)), (q, .inr (0, [.ref pa, .int (iI (zs1))])), (pa, .inl (cI, 306, .inl f1))]) (eX_X t5 ad) hE hK hP hD hS hA [0, 1, 2, 3] rfl (by decide) U hU hW⟩ rfl rfl hl.1 rfl (lv_room (Nat.le_of_ble_eq_true rfl)) d_Ed_neighbourReadBack_80 ⟨Nat.le_of_ble_eq_true rfl, Nat.le_of_ble_eq_true rfl⟩) hP hD hS hA [0, 1, 2, 3] [] rfl rfl (by decide) (by decide) (fun r u H locs hp hP hD hS => ?_)
            obtain ⟨hrb2, f2, zs2, rfl⟩ := hp
            have hP : va_P D ecl [(x, .inr (1, [.ref dg, .int (iI (((dl X : Nat) : Int))), .int (iI (pt)), .int (iI (zl)), .ref q])), (dg, .inl (cB, 1200, .inl g)), (q, .inr (0, [.ref pa, .int (iI (zs2))])), (pa, .inl (cI, 306, .inl f2))] H := hP
            have hD : va_D A [(x, .inr (1, [.ref dg, .int (iI (((dl X : Nat) : Int))), .int (iI (pt)), .int (iI (zl)), .ref q])), (dg, .inl (cB, 1200, .inl g)), (q, .inr (0, [.ref pa, .int (iI (zs2))])), (pa, .inl (cI, 306, .inl f2))] := hD
            rcases hrb2 with ⟨rfl, hrb2⟩ | ⟨rfl, hrb2⟩
            · skip
              refine ed_pc (pc' := 83) rfl ?_
              refine ed_if_eq (tgt := 91) hx hb d_Ed_neighbourReadBack_83 rfl (by omega) (fun h_11 => ?_) (fun h_11 => ?_)
              · exact absurd h_11 (by omega)
              · skip
                refine ed_pc (pc' := 86) rfl ?_
                refine lv_lload hx hb d_Ed_neighbourReadBack_86 (lv_at hl 0 rfl) ?_
                refine lv_goto (tgt := 94) hx hb d_Ed_neighbourReadBack_88 rfl ?_
                exact W.lret (v := (jI (((bw + 1 : Nat) : Int)))) hx hb hr (fun t9 ht9 hW9 => ⟨⟨(jI (((bw + 1 : Nat) : Int))), [(x, .inr (1, [.ref dg, .int (iI (((dl X : Nat) : Int))), .int (iI (pt)), .int (iI (zl)), .ref q])), (dg, .inl (cB, 1200, .inl g)), (q, .inr (0, [.ref pa, .int (iI (zs2))])), (pa, .inl (cI, 306, .inl f2))], rfl, ⟨Or.inl ⟨bw + 1, rfl, by unfold NBR; rw [← hbw]; exact Or.inr ⟨hup, Or.inr ⟨hrb1, hrb2, rfl⟩⟩⟩, f2, zs2, rfl⟩, by rw [ht9]; exact hP, hD⟩, hS.F ht9⟩) hS.2.2 d_Ed_neighbourReadBack_94
            · skip
              refine ed_pc (pc' := 83) rfl ?_
              refine ed_if_eq (tgt := 91) hx hb d_Ed_neighbourReadBack_83 rfl (by omega) (fun h_12 => ?_) (fun h_12 => ?_)
              · skip
                refine ed_pc (pc' := 91) rfl ?_
                refine lv_ldc2 (v := (-1)) hx hb hown (hts _ (List.mem_cons_of_mem _ tw_272)) d_Ed_neighbourReadBack_91 ?_
                refine ed_tl (y := (jI (-1))) (by decide +kernel) ?_
                exact W.lret (v := (jI (-1))) hx hb hr (fun t9 ht9 hW9 => ⟨⟨(jI (-1)), [(x, .inr (1, [.ref dg, .int (iI (((dl X : Nat) : Int))), .int (iI (pt)), .int (iI (zl)), .ref q])), (dg, .inl (cB, 1200, .inl g)), (q, .inr (0, [.ref pa, .int (iI (zs2))])), (pa, .inl (cI, 306, .inl f2))], rfl, ⟨Or.inr ⟨rfl, by unfold NBno; rw [← hbw]; exact ⟨hrb1, hrb2⟩⟩, f2, zs2, rfl⟩, by rw [ht9]; exact hP, hD⟩, hS.F ht9⟩) hS.2.2 d_Ed_neighbourReadBack_94
              · exact absurd h_12 (by omega)
          · exact absurd h_10 (by omega)
    · exact absurd h_7 (by omega)
