theorem sh_room {X : Nat} {k : Int} (h : dl X ≤ 1200) (hk : -2200 ≤ k ∧ k ≤ 2200) : X * tw2 k < 1000000000 ^ 306 := by
  have h1 : X < 10 ^ 1200 := Nat.lt_of_lt_of_le (dl_lt X) (p10_le h)
  have h2 : tw2 k ≤ 10 ^ 1540 := by
    unfold tw2 tw2p
    rcases Int.le_total 0 k with z | z
    · have e : (-k).toNat = 0 := by omega
      rw [e, Nat.pow_zero, Nat.mul_one]
      refine Nat.le_trans (Nat.pow_le_pow_right (by decide) (show k.toNat ≤ 10 * 220 by omega)) ?_
      exact Nat.le_trans (p2_4 220) (p10_le (by decide))
    · have e : k.toNat = 0 := by omega
      rw [e, Nat.pow_zero, Nat.one_mul]
      refine Nat.le_trans (Nat.pow_le_pow_right (by decide) (show (-k).toNat ≤ 10 * 220 by omega)) ?_
      exact p5_7 220
  have h3 : X * tw2 k < 10 ^ 1200 * 10 ^ 1540 := Nat.lt_of_lt_of_le (Nat.mul_lt_mul_of_pos_right h1 (tw2_pos k)) (Nat.mul_le_mul_left _ h2)
  rw [← Nat.pow_add] at h3
  rw [pB_10]
  exact Nat.lt_of_lt_of_le h3 (p10_le (by decide))
set_option maxHeartbeats 4000000 in
set_option maxRecDepth 100000 in
theorem c_Ed_put (l : Launch) (D : va_G) (cB cI cJ : ClassId) (t5 : Nat) (ad : Nat → Nat) (x dg q : Nat) (g : Nat → Int32) (pt zl k d : Int) (X i : Nat) (hnm : nm_ok g X) (hpt : -100000000 ≤ pt ∧ pt ≤ 100000000) (hk : -400 ≤ k ∧ k ≤ 400) (hd : 0 ≤ d ∧ d ≤ 9) (hzl : zl = 0) (hi : (X = 0 ∧ i = 0) ∨ (¬ X = 0 ∧ pt + k = (i : Int) ∧ dl X ≤ i ∧ i < 1200)) : c_I l m_Ed_put (Cond.code m_Ed_put b_Ed_put 4 (some .int) :: gw) (rm_ 6 90) (eX t5 ad) D ecl (tyS cB cI cJ) [.ref x, .int (iI (k)), .int (iI (d))] [(x, .inr (1, [.ref dg, .int (iI (((dl X : Nat) : Int))), .int (iI (pt)), .int (iI (zl)), .ref q])), (dg, .inl (cB, 1200, .inl g))] (fun r u => ∃ (g' : Nat → Int32) (X' : Nat) (pt' : Int), r = iI ((dl X' : Nat) : Int) ∧ nm_ok g' X' ∧ ((d = 0 ∧ X' = X ∧ pt' = pt) ∨ (0 < d ∧ X' = apX X i d.toNat ∧ pt' = if X = 0 then -k else pt)) ∧ u = [(x, .inr (1, [.ref dg, .int (iI (((dl X' : Nat) : Int))), .int (iI (pt')), .int (iI (zl)), .ref q])), (dg, .inl (cB, 1200, .inl g'))]) 0 0 := by
  intro sz0
  refine Met.ofW (cc := b_Ed_put) (maxL := 4) (ret := (some .int)) (by decide) rfl ?_
  intro p e s m args below meth c s₁ B hml hv
  obtain ⟨rfl, hsz, hP, hK, hD0, hE⟩ := hv
  have hx := B.exec
  have hb := B.bytes
  have hr := B.returns
  have hts := atoms_spec (ws := Cond.code m_Ed_put b_Ed_put 4 (some .int) :: gw) B.pre
  have hown : s.vm.findClass R_Ed = some m.cls := findClass_of_methodNamed B.named
  have hlocks := B.notSynchronized
  subst hsz
  have hD := hD0.self (sz := s.heap.size)
  generalize hAe : va_A [(x, .inr (1, [.ref dg, .int (iI (((dl X : Nat) : Int))), .int (iI (pt)), .int (iI (zl)), .ref q])), (dg, .inl (cB, 1200, .inl g))] s.heap.size = A at hD hE ⊢
  have hA : ∀ q : Nat, s.heap.size ≤ q → A q := fun q h => by rw [← hAe]; exact Or.inr h
  have hS : va_S A s.heap s.heap [] := va_S.rf
  have hl := lv_entry ([.ref x, .int (iI (k)), .int (iI (d))]) (n := 4) (Nat.le_of_ble_eq_true rfl)
  rw [lg_entry_eq]
  generalize (lg_sl ([.ref x, .int (iI (k)), .int (iI (d))]) ++ List.replicate (4 - (lg_sl ([.ref x, .int (iI (k)), .int (iI (d))])).length) Slot.unset).toArray = ls at hl ⊢
  have hl : lv_has ls 4 [(0, .ref x), (1, .int (iI (k))), (2, .int (iI (d)))] := hl
  have hX12 := hnm.1
  have hd0 : dl X = 0 ↔ X = 0 := ⟨fun z => dl_eq0 z, fun z => by rw [z, dl_0]⟩
  refine lv_iload_n hx hb d_Ed_put_0 rfl (lv_at hl 2 rfl) ?_
  refine ed_if_lt (tgt := 27) hx hb d_Ed_put_1 rfl (by omega) (fun h_1 => ?_) (fun h_1 => ?_)
  · exact absurd h_1 (by omega)
  · skip
    refine ed_pc (pc' := 4) rfl ?_
    refine lv_iload_n hx hb d_Ed_put_4 rfl (lv_at hl 2 rfl) ?_
    refine lv_bipush (v := iI 9) hx hb d_Ed_put_5 (by decide +kernel) ?_
    refine ed_icmp_gt (tgt := 27) hx hb d_Ed_put_7 rfl (by omega) (by omega) (fun h_2 => ?_) (fun h_2 => ?_)
    · exact absurd h_2 (by omega)
    · skip
      refine ed_pc (pc' := 10) rfl ?_
      refine lv_iload_n hx hb d_Ed_put_10 rfl (lv_at hl 1 rfl) ?_
      refine lv_sipush (v := iI 400) hx hb d_Ed_put_11 (by decide +kernel) ?_
      refine ed_pc (pc' := 14) rfl ?_
      refine c_fi (wc := []) (wr := [(x, .inr (1, [.ref dg, .int (iI (((dl X : Nat) : Int))), .int (iI (pt)), .int (iI (zl)), .ref q])), (dg, .inl (cB, 1200, .inl g))]) (va_runS (As := [.int (iI (k)), .int (iI (400))]) (rest := []) ⟨hx, hb, hml, hown, hts⟩ (c_Ed_isBeyond l D cB cI cJ t5 ad (k) 400 (by omega) (by omega) s.heap.size) (va_cwS 2 hts (gS tw_281 tw_282 tw_1 tw_283) rfl rfl rfl (by decide +kernel) ⟨Nat.le_of_ble_eq_true rfl, Nat.le_of_ble_eq_true rfl⟩) ⟨c_blind (eX_X t5 ad), fun U hU hW => c_pre (wc := []) (eX_X t5 ad) hE hK hP hD hS hA [] rfl (by decide) U hU hW⟩ rfl rfl hl.1 rfl (lv_room (Nat.le_of_ble_eq_true rfl)) d_Ed_put_14 ⟨Nat.le_of_ble_eq_true rfl, Nat.le_of_ble_eq_true rfl⟩) hP hD hS hA [] [0, 1] rfl rfl (by decide) (by decide) (fun r u H locs hp hP hD hS => ?_)
      obtain ⟨rfl, rfl⟩ := hp
      have hP : va_P D ecl [(x, .inr (1, [.ref dg, .int (iI (((dl X : Nat) : Int))), .int (iI (pt)), .int (iI (zl)), .ref q])), (dg, .inl (cB, 1200, .inl g))] H := hP
      have hD : va_D A [(x, .inr (1, [.ref dg, .int (iI (((dl X : Nat) : Int))), .int (iI (pt)), .int (iI (zl)), .ref q])), (dg, .inl (cB, 1200, .inl g))] := hD
      obtain ⟨zb, hzb, hzb2⟩ : ∃ zb : Int, zb = (if k < -400 ∨ 400 < k then 1 else 0) ∧ ((zb = 1 ∧ (k < -400 ∨ 400 < k)) ∨ (zb = 0 ∧ ¬ (k < -400 ∨ 400 < k))) := ⟨_, rfl, by split <;> simp_all⟩
      refine ed_tz (y := zb) (hzb.symm) ?_
      refine ed_if_ne (tgt := 27) hx hb d_Ed_put_17 rfl (by omega) (fun h_3 => ?_) (fun h_3 => ?_)
      · exact absurd h_3 (by omega)
      · skip
        refine ed_pc (pc' := 20) rfl ?_
        refine lv_aload_n hx hb d_Ed_put_20 rfl (lv_at hl 0 rfl) ?_
        refine va_get (D := D) (ci := 1) (v := .int (iI (zl))) (C := R_Ed) (T := T_Ed) (N := 5) hx hb hts (fun w h => List.mem_cons_of_mem _ (in_Ed w h)) hown hK hP 0 rfl rfl 3 (by decide) (hts _ (List.mem_cons_of_mem _ tw_43)) (fun _ h9 => h9) rfl d_Ed_put_21 ?_
        refine ed_if_eq (tgt := 35) hx hb d_Ed_put_24 rfl (by omega) (fun h_4 => ?_) (fun h_4 => ?_)
        · skip
          refine ed_pc (pc' := 35) rfl ?_
          refine lv_aload_n hx hb d_Ed_put_35 rfl (lv_at hl 0 rfl) ?_
          refine va_get (D := D) (ci := 1) (v := .int (iI (((dl X : Nat) : Int)))) (C := R_Ed) (T := T_Ed) (N := 5) hx hb hts (fun w h => List.mem_cons_of_mem _ (in_Ed w h)) hown hK hP 0 rfl rfl 1 (by decide) (hts _ (List.mem_cons_of_mem _ tw_41)) (fun _ h9 => h9) rfl d_Ed_put_36 ?_
          refine ed_if_ne (tgt := 46) hx hb d_Ed_put_39 rfl (by omega) (fun h_5 => ?_) (fun h_5 => ?_)
          · skip
            refine ed_pc (pc' := 46) rfl ?_
            refine ed_pc (pc' := 46) rfl ?_
            refine lv_aload_n hx hb d_Ed_put_46 rfl (lv_at hl 0 rfl) ?_
            refine va_get (D := D) (ci := 1) (v := .int (iI (pt))) (C := R_Ed) (T := T_Ed) (N := 5) hx hb hts (fun w h => List.mem_cons_of_mem _ (in_Ed w h)) hown hK hP 0 rfl rfl 2 (by decide) (hts _ (List.mem_cons_of_mem _ tw_42)) (fun _ h9 => h9) rfl d_Ed_put_47 ?_
            refine lv_iload_n hx hb d_Ed_put_50 rfl (lv_at hl 1 rfl) ?_
            refine ed_iadd hx hb d_Ed_put_51 ?_
            refine ed_tz (y := (i : Int)) (by omega) ?_
            refine lv_istore_n hx hb d_Ed_put_52 rfl hl (by decide) rfl (fun ls hl => ?_)
            have hl : lv_has ls 4 [(3, .int (iI ((i : Int)))), (0, .ref x), (1, .int (iI (k))), (2, .int (iI (d)))] := hl
            refine lv_iload_n hx hb d_Ed_put_53 rfl (lv_at hl 0 rfl) ?_
            refine lv_aload_n hx hb d_Ed_put_54 rfl (lv_at hl 1 rfl) ?_
            refine va_get (D := D) (ci := 1) (v := .int (iI (((dl X : Nat) : Int)))) (C := R_Ed) (T := T_Ed) (N := 5) hx hb hts (fun w h => List.mem_cons_of_mem _ (in_Ed w h)) hown hK hP 0 rfl rfl 1 (by decide) (hts _ (List.mem_cons_of_mem _ tw_41)) (fun _ h9 => h9) rfl d_Ed_put_55 ?_
            refine ed_pc (pc' := 58) rfl ?_
            refine ed_icmp_lt (tgt := 68) hx hb d_Ed_put_58 rfl (by omega) (by omega) (fun h_6 => ?_) (fun h_6 => ?_)
            · exact absurd h_6 (by omega)
            · skip
              refine ed_pc (pc' := 61) rfl ?_
              refine lv_iload_n hx hb d_Ed_put_61 rfl (lv_at hl 0 rfl) ?_
              refine lv_sipush (v := iI 1200) hx hb d_Ed_put_62 (by decide +kernel) ?_
              refine ed_icmp_lt (tgt := 76) hx hb d_Ed_put_65 rfl (by omega) (by omega) (fun h_7 => ?_) (fun h_7 => ?_)
              · skip
                refine ed_pc (pc' := 76) rfl ?_
                refine lv_iload_n hx hb d_Ed_put_76 rfl (lv_at hl 3 rfl) ?_
                refine ed_if_eq (tgt := 87) hx hb d_Ed_put_77 rfl (by omega) (fun h_8 => ?_) (fun h_8 => ?_)
                · skip
                  refine ed_pc (pc' := 87) rfl ?_
                  refine lv_aload_n hx hb d_Ed_put_87 rfl (lv_at hl 1 rfl) ?_
                  refine va_get (D := D) (ci := 1) (v := .int (iI (((dl X : Nat) : Int)))) (C := R_Ed) (T := T_Ed) (N := 5) hx hb hts (fun w h => List.mem_cons_of_mem _ (in_Ed w h)) hown hK hP 0 rfl rfl 1 (by decide) (hts _ (List.mem_cons_of_mem _ tw_41)) (fun _ h9 => h9) rfl d_Ed_put_88 ?_
                  exact W.iret (v := (iI (((dl X : Nat) : Int)))) hx hb hr (fun t9 ht9 hW9 => ⟨⟨(iI (((dl X : Nat) : Int))), [(x, .inr (1, [.ref dg, .int (iI (((dl X : Nat) : Int))), .int (iI (pt)), .int (iI (zl)), .ref q])), (dg, .inl (cB, 1200, .inl g))], rfl, ⟨g, _, _, rfl, hnm, Or.inl ⟨by omega, rfl, rfl⟩, rfl⟩, by rw [ht9]; exact hP, hD⟩, hS.F ht9⟩) hS.2.2 d_Ed_put_91
                · skip
                  refine ed_pc (pc' := 80) rfl ?_
                  refine lv_aload_n hx hb d_Ed_put_80 rfl (lv_at hl 1 rfl) ?_
                  refine lv_iload_n hx hb d_Ed_put_81 rfl (lv_at hl 0 rfl) ?_
                  refine ed_pc (pc' := 82) rfl ?_
                  refine lv_iload_n hx hb d_Ed_put_82 rfl (lv_at hl 2 rfl) ?_
                  refine lv_iload_n hx hb d_Ed_put_83 rfl (lv_at hl 3 rfl) ?_
                  refine ed_tz (y := ((d.toNat : Nat) : Int)) (by omega) ?_
                  refine c_fv (wc := [(x, .inr (1, [.ref dg, .int (iI (((dl X : Nat) : Int))), .int (iI (pt)), .int (iI (zl)), .ref q])), (dg, .inl (cB, 1200, .inl g))]) (wr := []) (va_runV (C := "ExactDigits") (As := [.int (iI ((i : Int))), .int (iI (k)), .int (iI (((d.toNat : Nat) : Int)))]) (rest := []) ⟨hx, hb, hml, hown, hts⟩ (c_Ed_append l D cB cI cJ t5 ad x dg q g pt zl k X i d.toNat hnm (by omega) (by omega) (by omega) (by omega) (by omega) H.size) (cwV 3 hts (gV tw_299 tw_301 ts_12 tw_1 tw_302) rfl rfl rfl (by decide +kernel) ⟨Nat.le_of_ble_eq_true rfl, Nat.le_of_ble_eq_true rfl⟩) ⟨c_blind (eX_X t5 ad), va_recv (ci := 1) (q0 := 0) hK hP rfl rfl, fun U hU hW => c_pre (wc := [(x, .inr (1, [.ref dg, .int (iI (((dl X : Nat) : Int))), .int (iI (pt)), .int (iI (zl)), .ref q])), (dg, .inl (cB, 1200, .inl g))]) (eX_X t5 ad) hE hK hP hD hS hA [0, 1] rfl (by decide) U hU hW⟩ rfl rfl hl.1 rfl (lv_room (Nat.le_of_ble_eq_true rfl)) d_Ed_put_84 ⟨Nat.le_of_ble_eq_true rfl, Nat.le_of_ble_eq_true rfl⟩) hP hD hS hA [0, 1] [] rfl rfl (by decide) (by decide) (fun u H locs hp hP hD hS => ?_)
                  obtain ⟨g2, hn2, rfl⟩ := hp
                  have hP : va_P D ecl [(x, .inr (1, [.ref dg, .int (iI (((dl (apX X i d.toNat) : Nat) : Int))), .int (iI (if X = 0 then -k else pt)), .int (iI (zl)), .ref q])), (dg, .inl (cB, 1200, .inl g2))] H := hP
                  have hD : va_D A [(x, .inr (1, [.ref dg, .int (iI (((dl (apX X i d.toNat) : Nat) : Int))), .int (iI (if X = 0 then -k else pt)), .int (iI (zl)), .ref q])), (dg, .inl (cB, 1200, .inl g2))] := hD
                  refine lv_aload_n hx hb d_Ed_put_87 rfl (lv_at hl 1 rfl) ?_
                  refine va_get (D := D) (ci := 1) (v := .int (iI (((dl (apX X i d.toNat) : Nat) : Int)))) (C := R_Ed) (T := T_Ed) (N := 5) hx hb hts (fun w h => List.mem_cons_of_mem _ (in_Ed w h)) hown hK hP 0 rfl rfl 1 (by decide) (hts _ (List.mem_cons_of_mem _ tw_41)) (fun _ h9 => h9) rfl d_Ed_put_88 ?_
                  exact W.iret (v := (iI (((dl (apX X i d.toNat) : Nat) : Int)))) hx hb hr (fun t9 ht9 hW9 => ⟨⟨(iI (((dl (apX X i d.toNat) : Nat) : Int))), [(x, .inr (1, [.ref dg, .int (iI (((dl (apX X i d.toNat) : Nat) : Int))), .int (iI (if X = 0 then -k else pt)), .int (iI (zl)), .ref q])), (dg, .inl (cB, 1200, .inl g2))], rfl, ⟨g2, _, _, rfl, hn2, Or.inr ⟨by omega, rfl, rfl⟩, rfl⟩, by rw [ht9]; exact hP, hD⟩, hS.F ht9⟩) hS.2.2 d_Ed_put_91
              · exact absurd h_7 (by omega)
          · skip
            refine ed_pc (pc' := 42) rfl ?_
            refine ed_pc (pc' := 42) rfl ?_
            refine lv_iconst (v := iI 0) hx hb d_Ed_put_42 rfl ?_
            refine lv_goto (tgt := 52) hx hb d_Ed_put_43 rfl ?_
            refine ed_tz (y := (i : Int)) (by omega) ?_
            refine lv_istore_n hx hb d_Ed_put_52 rfl hl (by decide) rfl (fun ls hl => ?_)
            have hl : lv_has ls 4 [(3, .int (iI ((i : Int)))), (0, .ref x), (1, .int (iI (k))), (2, .int (iI (d)))] := hl
            refine lv_iload_n hx hb d_Ed_put_53 rfl (lv_at hl 0 rfl) ?_
            refine lv_aload_n hx hb d_Ed_put_54 rfl (lv_at hl 1 rfl) ?_
            refine va_get (D := D) (ci := 1) (v := .int (iI (((dl X : Nat) : Int)))) (C := R_Ed) (T := T_Ed) (N := 5) hx hb hts (fun w h => List.mem_cons_of_mem _ (in_Ed w h)) hown hK hP 0 rfl rfl 1 (by decide) (hts _ (List.mem_cons_of_mem _ tw_41)) (fun _ h9 => h9) rfl d_Ed_put_55 ?_
            refine ed_icmp_lt (tgt := 68) hx hb d_Ed_put_58 rfl (by omega) (by omega) (fun h_9 => ?_) (fun h_9 => ?_)
            · exact absurd h_9 (by omega)
            · skip
              refine ed_pc (pc' := 61) rfl ?_
              refine lv_iload_n hx hb d_Ed_put_61 rfl (lv_at hl 0 rfl) ?_
              refine ed_pc (pc' := 62) rfl ?_
              refine lv_sipush (v := iI 1200) hx hb d_Ed_put_62 (by decide +kernel) ?_
              refine ed_icmp_lt (tgt := 76) hx hb d_Ed_put_65 rfl (by omega) (by omega) (fun h_10 => ?_) (fun h_10 => ?_)
              · skip
                refine ed_pc (pc' := 76) rfl ?_
                refine lv_iload_n hx hb d_Ed_put_76 rfl (lv_at hl 3 rfl) ?_
                refine ed_if_eq (tgt := 87) hx hb d_Ed_put_77 rfl (by omega) (fun h_11 => ?_) (fun h_11 => ?_)
                · skip
                  refine ed_pc (pc' := 87) rfl ?_
                  refine lv_aload_n hx hb d_Ed_put_87 rfl (lv_at hl 1 rfl) ?_
                  refine va_get (D := D) (ci := 1) (v := .int (iI (((dl X : Nat) : Int)))) (C := R_Ed) (T := T_Ed) (N := 5) hx hb hts (fun w h => List.mem_cons_of_mem _ (in_Ed w h)) hown hK hP 0 rfl rfl 1 (by decide) (hts _ (List.mem_cons_of_mem _ tw_41)) (fun _ h9 => h9) rfl d_Ed_put_88 ?_
                  exact W.iret (v := (iI (((dl X : Nat) : Int)))) hx hb hr (fun t9 ht9 hW9 => ⟨⟨(iI (((dl X : Nat) : Int))), [(x, .inr (1, [.ref dg, .int (iI (((dl X : Nat) : Int))), .int (iI (pt)), .int (iI (zl)), .ref q])), (dg, .inl (cB, 1200, .inl g))], rfl, ⟨g, _, _, rfl, hnm, Or.inl ⟨by omega, rfl, rfl⟩, rfl⟩, by rw [ht9]; exact hP, hD⟩, hS.F ht9⟩) hS.2.2 d_Ed_put_91
                · skip
                  refine ed_pc (pc' := 80) rfl ?_
                  refine lv_aload_n hx hb d_Ed_put_80 rfl (lv_at hl 1 rfl) ?_
                  refine lv_iload_n hx hb d_Ed_put_81 rfl (lv_at hl 0 rfl) ?_
                  refine lv_iload_n hx hb d_Ed_put_82 rfl (lv_at hl 2 rfl) ?_
                  refine lv_iload_n hx hb d_Ed_put_83 rfl (lv_at hl 3 rfl) ?_
                  refine ed_tz (y := ((d.toNat : Nat) : Int)) (by omega) ?_
                  refine ed_pc (pc' := 84) rfl ?_
                  refine c_fv (wc := [(x, .inr (1, [.ref dg, .int (iI (((dl X : Nat) : Int))), .int (iI (pt)), .int (iI (zl)), .ref q])), (dg, .inl (cB, 1200, .inl g))]) (wr := []) (va_runV (C := "ExactDigits") (As := [.int (iI ((i : Int))), .int (iI (k)), .int (iI (((d.toNat : Nat) : Int)))]) (rest := []) ⟨hx, hb, hml, hown, hts⟩ (c_Ed_append l D cB cI cJ t5 ad x dg q g pt zl k X i d.toNat hnm (by omega) (by omega) (by omega) (by omega) (by omega) H.size) (cwV 3 hts (gV tw_299 tw_301 ts_12 tw_1 tw_302) rfl rfl rfl (by decide +kernel) ⟨Nat.le_of_ble_eq_true rfl, Nat.le_of_ble_eq_true rfl⟩) ⟨c_blind (eX_X t5 ad), va_recv (ci := 1) (q0 := 0) hK hP rfl rfl, fun U hU hW => c_pre (wc := [(x, .inr (1, [.ref dg, .int (iI (((dl X : Nat) : Int))), .int (iI (pt)), .int (iI (zl)), .ref q])), (dg, .inl (cB, 1200, .inl g))]) (eX_X t5 ad) hE hK hP hD hS hA [0, 1] rfl (by decide) U hU hW⟩ rfl rfl hl.1 rfl (lv_room (Nat.le_of_ble_eq_true rfl)) d_Ed_put_84 ⟨Nat.le_of_ble_eq_true rfl, Nat.le_of_ble_eq_true rfl⟩) hP hD hS hA [0, 1] [] rfl rfl (by decide) (by decide) (fun u H locs hp hP hD hS => ?_)
                  obtain ⟨g2, hn2, rfl⟩ := hp
                  have hP : va_P D ecl [(x, .inr (1, [.ref dg, .int (iI (((dl (apX X i d.toNat) : Nat) : Int))), .int (iI (if X = 0 then -k else pt)), .int (iI (zl)), .ref q])), (dg, .inl (cB, 1200, .inl g2))] H := hP
                  have hD : va_D A [(x, .inr (1, [.ref dg, .int (iI (((dl (apX X i d.toNat) : Nat) : Int))), .int (iI (if X = 0 then -k else pt)), .int (iI (zl)), .ref q])), (dg, .inl (cB, 1200, .inl g2))] := hD
                  refine lv_aload_n hx hb d_Ed_put_87 rfl (lv_at hl 1 rfl) ?_
                  refine va_get (D := D) (ci := 1) (v := .int (iI (((dl (apX X i d.toNat) : Nat) : Int)))) (C := R_Ed) (T := T_Ed) (N := 5) hx hb hts (fun w h => List.mem_cons_of_mem _ (in_Ed w h)) hown hK hP 0 rfl rfl 1 (by decide) (hts _ (List.mem_cons_of_mem _ tw_41)) (fun _ h9 => h9) rfl d_Ed_put_88 ?_
                  exact W.iret (v := (iI (((dl (apX X i d.toNat) : Nat) : Int)))) hx hb hr (fun t9 ht9 hW9 => ⟨⟨(iI (((dl (apX X i d.toNat) : Nat) : Int))), [(x, .inr (1, [.ref dg, .int (iI (((dl (apX X i d.toNat) : Nat) : Int))), .int (iI (if X = 0 then -k else pt)), .int (iI (zl)), .ref q])), (dg, .inl (cB, 1200, .inl g2))], rfl, ⟨g2, _, _, rfl, hn2, Or.inr ⟨by omega, rfl, rfl⟩, rfl⟩, by rw [ht9]; exact hP, hD⟩, hS.F ht9⟩) hS.2.2 d_Ed_put_91
              · exact absurd h_10 (by omega)
        · exact absurd h_4 (by omega)
set_option maxHeartbeats 4000000 in
set_option maxRecDepth 100000 in
theorem c_Ed_put_no (l : Launch) (hl0 : l.stackTraces = false) (D : va_G) (cB cI cJ : ClassId) (t5 : Nat) (ad : Nat → Nat) (x dg q : Nat) (g : Nat → Int32) (pt zl k d : Int) (X : Nat) (hX12 : dl X ≤ 1200) (hpt : -100000000 ≤ pt ∧ pt ≤ 100000000) (hk : iR k) (hd : iR d) (hzl : zl = 0 ∨ zl = 1) (hm : d < 0 ∨ 9 < d ∨ k < -400 ∨ 400 < k ∨ zl = 1 ∨ (¬ X = 0 ∧ (pt + k < ((dl X : Nat) : Int) ∨ 1200 ≤ pt + k))) : c_T l m_Ed_put (Cond.code m_Ed_put b_Ed_put 4 (some .int) :: gw) (rmx_ 6 90) (eX t5 ad) D ecl (tyS cB cI cJ) [.ref x, .int (iI (k)), .int (iI (d))] [(x, .inr (1, [.ref dg, .int (iI (((dl X : Nat) : Int))), .int (iI (pt)), .int (iI (zl)), .ref q])), (dg, .inl (cB, 1200, .inl g))] xIA := by
  intro sz0
  refine vx_ofW (cc := b_Ed_put) (maxL := 4) (ret := (some .int)) (by decide) rfl ?_
  intro p e s m args below meth c s₁ B hml htab hv
  obtain ⟨rfl, hsz, hP, hK, hD0, hE⟩ := hv
  have hx := B.exec
  have hb := B.bytes
  have hr := B.returns
  have hts := atoms_spec (ws := Cond.code m_Ed_put b_Ed_put 4 (some .int) :: gw) B.pre
  have hown : s.vm.findClass R_Ed = some m.cls := findClass_of_methodNamed B.named
  have hlocks := B.notSynchronized
  subst hsz
  have hD := hD0.self (sz := s.heap.size)
  generalize hAe : va_A [(x, .inr (1, [.ref dg, .int (iI (((dl X : Nat) : Int))), .int (iI (pt)), .int (iI (zl)), .ref q])), (dg, .inl (cB, 1200, .inl g))] s.heap.size = A at hD hE ⊢
  have hA : ∀ q : Nat, s.heap.size ≤ q → A q := fun q h => by rw [← hAe]; exact Or.inr h
  have hS : va_S A s.heap s.heap [] := va_S.rf
  have hl := lv_entry ([.ref x, .int (iI (k)), .int (iI (d))]) (n := 4) (Nat.le_of_ble_eq_true rfl)
  rw [lg_entry_eq]
  generalize (lg_sl ([.ref x, .int (iI (k)), .int (iI (d))]) ++ List.replicate (4 - (lg_sl ([.ref x, .int (iI (k)), .int (iI (d))])).length) Slot.unset).toArray = ls at hl ⊢
  have hl : lv_has ls 4 [(0, .ref x), (1, .int (iI (k))), (2, .int (iI (d)))] := hl
  have hd0 : dl X = 0 ↔ X = 0 := ⟨fun z => dl_eq0 z, fun z => by rw [z, dl_0]⟩
  refine lv_iload_n hx hb d_Ed_put_0 rfl (lv_at hl 2 rfl) ?_
  refine ed_if_lt (tgt := 27) hx hb d_Ed_put_1 rfl (by omega) (fun h_1 => ?_) (fun h_1 => ?_)
  · skip
    refine ed_pc (pc' := 27) rfl ?_
    exact vx_throw0 (own := "ExactDigits") (cls := xIA) (names := xNm) (rest := []) hx hb hl0 hown (by decide +kernel) (by decide +kernel) (hts _ (List.mem_cons_of_mem _ tw_284)) (hts _ (List.mem_cons_of_mem _ tw_15)) (vx_hat (fun w h => hts w (List.mem_cons_of_mem _ (ta_IA w h))) tb_IA (eW_IA hE.2.2.2.2.2.2.2.2.2.2.2)) tg_IA hE.2.2.2.2.2.2.2.2.2.1 hE.2.2.2.2.2.2.2.2.2.2.1 hS (hl.1.trans hml.symm) d_Ed_put_27 d_Ed_put_30 d_Ed_put_31 d_Ed_put_34 (fun x h => (htab x h).elim) (Nat.le_of_ble_eq_true rfl) (Nat.le_of_ble_eq_true rfl) (Nat.le_of_ble_eq_true rfl) (Nat.le_of_ble_eq_true rfl) hlocks (fun t9 hv9 hz9 hk9 => c_xc hP hD hS hz9 hk9) hS.2.2 (Nat.le_of_ble_eq_true rfl) (Nat.le_of_ble_eq_true rfl)
  · skip
    refine ed_pc (pc' := 4) rfl ?_
    refine lv_iload_n hx hb d_Ed_put_4 rfl (lv_at hl 2 rfl) ?_
    refine lv_bipush (v := iI 9) hx hb d_Ed_put_5 (by decide +kernel) ?_
    refine ed_icmp_gt (tgt := 27) hx hb d_Ed_put_7 rfl (by omega) (by omega) (fun h_2 => ?_) (fun h_2 => ?_)
    · skip
      refine ed_pc (pc' := 27) rfl ?_
      exact vx_throw0 (own := "ExactDigits") (cls := xIA) (names := xNm) (rest := []) hx hb hl0 hown (by decide +kernel) (by decide +kernel) (hts _ (List.mem_cons_of_mem _ tw_284)) (hts _ (List.mem_cons_of_mem _ tw_15)) (vx_hat (fun w h => hts w (List.mem_cons_of_mem _ (ta_IA w h))) tb_IA (eW_IA hE.2.2.2.2.2.2.2.2.2.2.2)) tg_IA hE.2.2.2.2.2.2.2.2.2.1 hE.2.2.2.2.2.2.2.2.2.2.1 hS (hl.1.trans hml.symm) d_Ed_put_27 d_Ed_put_30 d_Ed_put_31 d_Ed_put_34 (fun x h => (htab x h).elim) (Nat.le_of_ble_eq_true rfl) (Nat.le_of_ble_eq_true rfl) (Nat.le_of_ble_eq_true rfl) (Nat.le_of_ble_eq_true rfl) hlocks (fun t9 hv9 hz9 hk9 => c_xc hP hD hS hz9 hk9) hS.2.2 (Nat.le_of_ble_eq_true rfl) (Nat.le_of_ble_eq_true rfl)
    · skip
      refine ed_pc (pc' := 10) rfl ?_
      refine lv_iload_n hx hb d_Ed_put_10 rfl (lv_at hl 1 rfl) ?_
      refine lv_sipush (v := iI 400) hx hb d_Ed_put_11 (by decide +kernel) ?_
      refine ed_pc (pc' := 14) rfl ?_
      refine c_fi (wc := []) (wr := [(x, .inr (1, [.ref dg, .int (iI (((dl X : Nat) : Int))), .int (iI (pt)), .int (iI (zl)), .ref q])), (dg, .inl (cB, 1200, .inl g))]) (va_runS (As := [.int (iI (k)), .int (iI (400))]) (rest := []) ⟨hx, hb, hml, hown, hts⟩ (c_Ed_isBeyond l D cB cI cJ t5 ad (k) 400 (by omega) (by omega) s.heap.size) (va_cwS 2 hts (gS tw_281 tw_282 tw_1 tw_283) rfl rfl rfl (by decide +kernel) ⟨Nat.le_of_ble_eq_true rfl, Nat.le_of_ble_eq_true rfl⟩) ⟨c_blind (eX_X t5 ad), fun U hU hW => c_pre (wc := []) (eX_X t5 ad) hE hK hP hD hS hA [] rfl (by decide) U hU hW⟩ rfl rfl hl.1 rfl (lv_room (Nat.le_of_ble_eq_true rfl)) d_Ed_put_14 ⟨Nat.le_of_ble_eq_true rfl, Nat.le_of_ble_eq_true rfl⟩) hP hD hS hA [] [0, 1] rfl rfl (by decide) (by decide) (fun r u H locs hp hP hD hS => ?_)
      obtain ⟨rfl, rfl⟩ := hp
      have hP : va_P D ecl [(x, .inr (1, [.ref dg, .int (iI (((dl X : Nat) : Int))), .int (iI (pt)), .int (iI (zl)), .ref q])), (dg, .inl (cB, 1200, .inl g))] H := hP
      have hD : va_D A [(x, .inr (1, [.ref dg, .int (iI (((dl X : Nat) : Int))), .int (iI (pt)), .int (iI (zl)), .ref q])), (dg, .inl (cB, 1200, .inl g))] := hD
      obtain ⟨zb, hzb, hzb2⟩ : ∃ zb : Int, zb = (if k < -400 ∨ 400 < k then 1 else 0) ∧ ((zb = 1 ∧ (k < -400 ∨ 400 < k)) ∨ (zb = 0 ∧ ¬ (k < -400 ∨ 400 < k))) := ⟨_, rfl, by split <;> simp_all⟩
      refine ed_tz (y := zb) (hzb.symm) ?_
      refine ed_if_ne (tgt := 27) hx hb d_Ed_put_17 rfl (by omega) (fun h_3 => ?_) (fun h_3 => ?_)
      · skip
        refine ed_pc (pc' := 27) rfl ?_
        exact vx_throw0 (own := "ExactDigits") (cls := xIA) (names := xNm) (rest := []) hx hb hl0 hown (by decide +kernel) (by decide +kernel) (hts _ (List.mem_cons_of_mem _ tw_284)) (hts _ (List.mem_cons_of_mem _ tw_15)) (vx_hat (fun w h => hts w (List.mem_cons_of_mem _ (ta_IA w h))) tb_IA (eW_IA hE.2.2.2.2.2.2.2.2.2.2.2)) tg_IA hE.2.2.2.2.2.2.2.2.2.1 hE.2.2.2.2.2.2.2.2.2.2.1 hS (hl.1.trans hml.symm) d_Ed_put_27 d_Ed_put_30 d_Ed_put_31 d_Ed_put_34 (fun x h => (htab x h).elim) (Nat.le_of_ble_eq_true rfl) (Nat.le_of_ble_eq_true rfl) (Nat.le_of_ble_eq_true rfl) (Nat.le_of_ble_eq_true rfl) hlocks (fun t9 hv9 hz9 hk9 => c_xc hP hD hS hz9 hk9) hS.2.2 (Nat.le_of_ble_eq_true rfl) (Nat.le_of_ble_eq_true rfl)
      · skip
        refine ed_pc (pc' := 20) rfl ?_
        refine lv_aload_n hx hb d_Ed_put_20 rfl (lv_at hl 0 rfl) ?_
        refine va_get (D := D) (ci := 1) (v := .int (iI (zl))) (C := R_Ed) (T := T_Ed) (N := 5) hx hb hts (fun w h => List.mem_cons_of_mem _ (in_Ed w h)) hown hK hP 0 rfl rfl 3 (by decide) (hts _ (List.mem_cons_of_mem _ tw_43)) (fun _ h9 => h9) rfl d_Ed_put_21 ?_
        refine ed_if_eq (tgt := 35) hx hb d_Ed_put_24 rfl (by omega) (fun h_4 => ?_) (fun h_4 => ?_)
        · skip
          refine ed_pc (pc' := 35) rfl ?_
          refine lv_aload_n hx hb d_Ed_put_35 rfl (lv_at hl 0 rfl) ?_
          refine va_get (D := D) (ci := 1) (v := .int (iI (((dl X : Nat) : Int)))) (C := R_Ed) (T := T_Ed) (N := 5) hx hb hts (fun w h => List.mem_cons_of_mem _ (in_Ed w h)) hown hK hP 0 rfl rfl 1 (by decide) (hts _ (List.mem_cons_of_mem _ tw_41)) (fun _ h9 => h9) rfl d_Ed_put_36 ?_
          refine ed_if_ne (tgt := 46) hx hb d_Ed_put_39 rfl (by omega) (fun h_5 => ?_) (fun h_5 => ?_)
          · skip
            refine ed_pc (pc' := 46) rfl ?_
            refine ed_pc (pc' := 46) rfl ?_
            refine lv_aload_n hx hb d_Ed_put_46 rfl (lv_at hl 0 rfl) ?_
            refine va_get (D := D) (ci := 1) (v := .int (iI (pt))) (C := R_Ed) (T := T_Ed) (N := 5) hx hb hts (fun w h => List.mem_cons_of_mem _ (in_Ed w h)) hown hK hP 0 rfl rfl 2 (by decide) (hts _ (List.mem_cons_of_mem _ tw_42)) (fun _ h9 => h9) rfl d_Ed_put_47 ?_
            refine lv_iload_n hx hb d_Ed_put_50 rfl (lv_at hl 1 rfl) ?_
            refine ed_iadd hx hb d_Ed_put_51 ?_
            refine lv_istore_n hx hb d_Ed_put_52 rfl hl (by decide) rfl (fun ls hl => ?_)
            have hl : lv_has ls 4 [(3, .int (iI ((pt) + (k)))), (0, .ref x), (1, .int (iI (k))), (2, .int (iI (d)))] := hl
            refine lv_iload_n hx hb d_Ed_put_53 rfl (lv_at hl 0 rfl) ?_
            refine lv_aload_n hx hb d_Ed_put_54 rfl (lv_at hl 1 rfl) ?_
            refine va_get (D := D) (ci := 1) (v := .int (iI (((dl X : Nat) : Int)))) (C := R_Ed) (T := T_Ed) (N := 5) hx hb hts (fun w h => List.mem_cons_of_mem _ (in_Ed w h)) hown hK hP 0 rfl rfl 1 (by decide) (hts _ (List.mem_cons_of_mem _ tw_41)) (fun _ h9 => h9) rfl d_Ed_put_55 ?_
            refine ed_pc (pc' := 58) rfl ?_
            refine ed_icmp_lt (tgt := 68) hx hb d_Ed_put_58 rfl (by omega) (by omega) (fun h_6 => ?_) (fun h_6 => ?_)
            · skip
              refine ed_pc (pc' := 68) rfl ?_
              exact vx_throw0 (own := "ExactDigits") (cls := xIA) (names := xNm) (rest := []) hx hb hl0 hown (by decide +kernel) (by decide +kernel) (hts _ (List.mem_cons_of_mem _ tw_284)) (hts _ (List.mem_cons_of_mem _ tw_15)) (vx_hat (fun w h => hts w (List.mem_cons_of_mem _ (ta_IA w h))) tb_IA (eW_IA hE.2.2.2.2.2.2.2.2.2.2.2)) tg_IA hE.2.2.2.2.2.2.2.2.2.1 hE.2.2.2.2.2.2.2.2.2.2.1 hS (hl.1.trans hml.symm) d_Ed_put_68 d_Ed_put_71 d_Ed_put_72 d_Ed_put_75 (fun x h => (htab x h).elim) (Nat.le_of_ble_eq_true rfl) (Nat.le_of_ble_eq_true rfl) (Nat.le_of_ble_eq_true rfl) (Nat.le_of_ble_eq_true rfl) hlocks (fun t9 hv9 hz9 hk9 => c_xc hP hD hS hz9 hk9) hS.2.2 (Nat.le_of_ble_eq_true rfl) (Nat.le_of_ble_eq_true rfl)
            · skip
              refine ed_pc (pc' := 61) rfl ?_
              refine lv_iload_n hx hb d_Ed_put_61 rfl (lv_at hl 0 rfl) ?_
              refine lv_sipush (v := iI 1200) hx hb d_Ed_put_62 (by decide +kernel) ?_
              refine ed_icmp_lt (tgt := 76) hx hb d_Ed_put_65 rfl (by omega) (by omega) (fun h_7 => ?_) (fun h_7 => ?_)
              · exact absurd h_7 (by omega)
              · skip
                refine ed_pc (pc' := 68) rfl ?_
                exact vx_throw0 (own := "ExactDigits") (cls := xIA) (names := xNm) (rest := []) hx hb hl0 hown (by decide +kernel) (by decide +kernel) (hts _ (List.mem_cons_of_mem _ tw_284)) (hts _ (List.mem_cons_of_mem _ tw_15)) (vx_hat (fun w h => hts w (List.mem_cons_of_mem _ (ta_IA w h))) tb_IA (eW_IA hE.2.2.2.2.2.2.2.2.2.2.2)) tg_IA hE.2.2.2.2.2.2.2.2.2.1 hE.2.2.2.2.2.2.2.2.2.2.1 hS (hl.1.trans hml.symm) d_Ed_put_68 d_Ed_put_71 d_Ed_put_72 d_Ed_put_75 (fun x h => (htab x h).elim) (Nat.le_of_ble_eq_true rfl) (Nat.le_of_ble_eq_true rfl) (Nat.le_of_ble_eq_true rfl) (Nat.le_of_ble_eq_true rfl) hlocks (fun t9 hv9 hz9 hk9 => c_xc hP hD hS hz9 hk9) hS.2.2 (Nat.le_of_ble_eq_true rfl) (Nat.le_of_ble_eq_true rfl)
          · exact absurd h_5 (by omega)
        · skip
          refine ed_pc (pc' := 27) rfl ?_
          exact vx_throw0 (own := "ExactDigits") (cls := xIA) (names := xNm) (rest := []) hx hb hl0 hown (by decide +kernel) (by decide +kernel) (hts _ (List.mem_cons_of_mem _ tw_284)) (hts _ (List.mem_cons_of_mem _ tw_15)) (vx_hat (fun w h => hts w (List.mem_cons_of_mem _ (ta_IA w h))) tb_IA (eW_IA hE.2.2.2.2.2.2.2.2.2.2.2)) tg_IA hE.2.2.2.2.2.2.2.2.2.1 hE.2.2.2.2.2.2.2.2.2.2.1 hS (hl.1.trans hml.symm) d_Ed_put_27 d_Ed_put_30 d_Ed_put_31 d_Ed_put_34 (fun x h => (htab x h).elim) (Nat.le_of_ble_eq_true rfl) (Nat.le_of_ble_eq_true rfl) (Nat.le_of_ble_eq_true rfl) (Nat.le_of_ble_eq_true rfl) hlocks (fun t9 hv9 hz9 hk9 => c_xc hP hD hS hz9 hk9) hS.2.2 (Nat.le_of_ble_eq_true rfl) (Nat.le_of_ble_eq_true rfl)
set_option maxHeartbeats 4000000 in
set_option maxRecDepth 100000 in
theorem c_Ed_shift (l : Launch) (D : va_G) (cB cI cJ : ClassId) (t5 : Nat) (ad : Nat → Nat) (x dg q pa : Nat) (g f : Nat → Int32) (zs pt zl k : Int) (X : Nat) (hnm : nm_ok g X) (hpt : -9000000 ≤ pt ∧ pt ≤ 9000000) (hzl : zl = 0 ∨ zl = 1) (hk : -2200 ≤ k ∧ k ≤ 2200) : c_I l m_Ed_shift (Cond.code m_Ed_shift b_Ed_shift 4 (some .int) :: gw) (rm_ 6 93) (eX t5 ad) D ecl (tyS cB cI cJ) [.ref x, .int (iI (k))] [(x, .inr (1, [.ref dg, .int (iI (((dl X : Nat) : Int))), .int (iI (pt)), .int (iI (zl)), .ref q])), (dg, .inl (cB, 1200, .inl g)), (q, .inr (0, [.ref pa, .int (iI (zs))])), (pa, .inl (cI, 306, .inl f))] (fun r u => r = iI ((dl (gvD (X * tw2 k)) : Nat) : Int) ∧ ∃ (g' f' : Nat → Int32) (zs' zl' : Int), nm_ok g' (gvD (X * tw2 k)) ∧ ((zl' = 1 ∧ (hdb (X * tw2 k) (((dl (X * tw2 k) : Nat) : Int) - 1200) = 1 ∨ zl = 1)) ∨ (zl' = 0 ∧ ¬ (hdb (X * tw2 k) (((dl (X * tw2 k) : Nat) : Int) - 1200) = 1 ∨ zl = 1))) ∧ u = [(x, .inr (1, [.ref dg, .int (iI (((dl (gvD (X * tw2 k)) : Nat) : Int))), .int (iI (if (X * tw2 k) = 0 then 0 else ((dl (X * tw2 k) : Nat) : Int) + (pt - ((dl X : Nat) : Int) + min k 0))), .int (iI (zl')), .ref q])), (dg, .inl (cB, 1200, .inl g')), (q, .inr (0, [.ref pa, .int (iI (zs'))])), (pa, .inl (cI, 306, .inl f'))]) 0 0 := by
  intro sz0
  refine Met.ofW (cc := b_Ed_shift) (maxL := 4) (ret := (some .int)) (by decide) rfl ?_
  intro p e s m args below meth c s₁ B hml hv
  obtain ⟨rfl, hsz, hP, hK, hD0, hE⟩ := hv
  have hx := B.exec
  have hb := B.bytes
  have hr := B.returns
  have hts := atoms_spec (ws := Cond.code m_Ed_shift b_Ed_shift 4 (some .int) :: gw) B.pre
  have hown : s.vm.findClass R_Ed = some m.cls := findClass_of_methodNamed B.named
  have hlocks := B.notSynchronized
  subst hsz
  have hD := hD0.self (sz := s.heap.size)
  generalize hAe : va_A [(x, .inr (1, [.ref dg, .int (iI (((dl X : Nat) : Int))), .int (iI (pt)), .int (iI (zl)), .ref q])), (dg, .inl (cB, 1200, .inl g)), (q, .inr (0, [.ref pa, .int (iI (zs))])), (pa, .inl (cI, 306, .inl f))] s.heap.size = A at hD hE ⊢
  have hA : ∀ q : Nat, s.heap.size ≤ q → A q := fun q h => by rw [← hAe]; exact Or.inr h
  have hS : va_S A s.heap s.heap [] := va_S.rf
  have hl := lv_entry ([.ref x, .int (iI (k))]) (n := 4) (Nat.le_of_ble_eq_true rfl)
  rw [lg_entry_eq]
  generalize (lg_sl ([.ref x, .int (iI (k))]) ++ List.replicate (4 - (lg_sl ([.ref x, .int (iI (k))])).length) Slot.unset).toArray = ls at hl ⊢
  have hl : lv_has ls 4 [(0, .ref x), (1, .int (iI (k)))] := hl
  have hX12 := hnm.1
  have hXR := sh_room hX12 hk
  refine lv_iload_n hx hb d_Ed_shift_0 rfl (lv_at hl 1 rfl) ?_
  refine lv_sipush (v := iI 2200) hx hb d_Ed_shift_1 (by decide +kernel) ?_
  refine c_fi (wc := []) (wr := [(x, .inr (1, [.ref dg, .int (iI (((dl X : Nat) : Int))), .int (iI (pt)), .int (iI (zl)), .ref q])), (dg, .inl (cB, 1200, .inl g)), (q, .inr (0, [.ref pa, .int (iI (zs))])), (pa, .inl (cI, 306, .inl f))]) (va_runS (As := [.int (iI (k)), .int (iI (2200))]) (rest := []) ⟨hx, hb, hml, hown, hts⟩ (c_Ed_isBeyond l D cB cI cJ t5 ad (k) 2200 (by omega) (by omega) s.heap.size) (va_cwS 2 hts (gS tw_281 tw_282 tw_1 tw_283) rfl rfl rfl (by decide +kernel) ⟨Nat.le_of_ble_eq_true rfl, Nat.le_of_ble_eq_true rfl⟩) ⟨c_blind (eX_X t5 ad), fun U hU hW => c_pre (wc := []) (eX_X t5 ad) hE hK hP hD hS hA [] rfl (by decide) U hU hW⟩ rfl rfl hl.1 rfl (lv_room (Nat.le_of_ble_eq_true rfl)) d_Ed_shift_4 ⟨Nat.le_of_ble_eq_true rfl, Nat.le_of_ble_eq_true rfl⟩) hP hD hS hA [] [0, 1, 2, 3] rfl rfl (by decide) (by decide) (fun r u H locs hp hP hD hS => ?_)
  obtain ⟨rfl, rfl⟩ := hp
  have hP : va_P D ecl [(x, .inr (1, [.ref dg, .int (iI (((dl X : Nat) : Int))), .int (iI (pt)), .int (iI (zl)), .ref q])), (dg, .inl (cB, 1200, .inl g)), (q, .inr (0, [.ref pa, .int (iI (zs))])), (pa, .inl (cI, 306, .inl f))] H := hP
  have hD : va_D A [(x, .inr (1, [.ref dg, .int (iI (((dl X : Nat) : Int))), .int (iI (pt)), .int (iI (zl)), .ref q])), (dg, .inl (cB, 1200, .inl g)), (q, .inr (0, [.ref pa, .int (iI (zs))])), (pa, .inl (cI, 306, .inl f))] := hD
  obtain ⟨zb, hzb, hzb2⟩ : ∃ zb : Int, zb = (if k < -2200 ∨ 2200 < k then 1 else 0) ∧ ((zb = 1 ∧ (k < -2200 ∨ 2200 < k)) ∨ (zb = 0 ∧ ¬ (k < -2200 ∨ 2200 < k))) := ⟨_, rfl, by split <;> simp_all⟩
  refine ed_tz (y := zb) (hzb.symm) ?_
  refine ed_if_eq (tgt := 18) hx hb d_Ed_shift_7 rfl (by omega) (fun h_1 => ?_) (fun h_1 => ?_)
  · skip
    refine ed_pc (pc' := 18) rfl ?_
    refine lv_aload_n hx hb d_Ed_shift_18 rfl (lv_at hl 0 rfl) ?_
    refine va_get (D := D) (ci := 1) (v := .ref q) (C := R_Ed) (T := T_Ed) (N := 5) hx hb hts (fun w h => List.mem_cons_of_mem _ (in_Ed w h)) hown hK hP 0 rfl rfl 4 (by decide) (hts _ (List.mem_cons_of_mem _ tw_44)) (fun _ h9 => h9) rfl d_Ed_shift_19 ?_
    refine lv_aload_n hx hb d_Ed_shift_22 rfl (lv_at hl 0 rfl) ?_
    refine ed_pc (pc' := 23) rfl ?_
    refine va_get (D := D) (ci := 1) (v := .ref dg) (C := R_Ed) (T := T_Ed) (N := 5) hx hb hts (fun w h => List.mem_cons_of_mem _ (in_Ed w h)) hown hK hP 0 rfl rfl 0 (by decide) (hts _ (List.mem_cons_of_mem _ tw_40)) (fun _ h9 => h9) rfl d_Ed_shift_23 ?_
    refine lv_aload_n hx hb d_Ed_shift_26 rfl (lv_at hl 0 rfl) ?_
    refine va_get (D := D) (ci := 1) (v := .int (iI (((dl X : Nat) : Int)))) (C := R_Ed) (T := T_Ed) (N := 5) hx hb hts (fun w h => List.mem_cons_of_mem _ (in_Ed w h)) hown hK hP 0 rfl rfl 1 (by decide) (hts _ (List.mem_cons_of_mem _ tw_41)) (fun _ h9 => h9) rfl d_Ed_shift_27 ?_
    refine c_fv (wc := [(q, .inr (0, [.ref pa, .int (iI (zs))])), (pa, .inl (cI, 306, .inl f)), (dg, .inl (cB, 1200, .inl g))]) (wr := [(x, .inr (1, [.ref dg, .int (iI (((dl X : Nat) : Int))), .int (iI (pt)), .int (iI (zl)), .ref q]))]) (va_runV (C := "ExactDigits$Natural") (As := [.ref dg, .int (iI (((dl X : Nat) : Int)))]) (rest := []) ⟨hx, hb, hml, hown, hts⟩ (c_Na_setDigits l D cB cI cJ t5 ad q pa dg f g zs (dl X) X hX12 (dl_lt X) (fun z => dl_le (by rcases Nat.eq_zero_or_pos X with y | y; rw [y, dl_0] at z; omega; exact y)) hnm.2.2 H.size) (cwV 2 hts (gV tw_99 tw_100 tw_101 tw_2 tw_102) rfl rfl rfl (by decide +kernel) ⟨Nat.le_of_ble_eq_true rfl, Nat.le_of_ble_eq_true rfl⟩) ⟨c_blind (eX_X t5 ad), va_recv (ci := 0) (q0 := 2) hK hP rfl rfl, fun U hU hW => c_pre (wc := [(q, .inr (0, [.ref pa, .int (iI (zs))])), (pa, .inl (cI, 306, .inl f)), (dg, .inl (cB, 1200, .inl g))]) (eX_X t5 ad) hE hK hP hD hS hA [2, 3, 1] rfl (by decide) U hU hW⟩ rfl rfl hl.1 rfl (lv_room (Nat.le_of_ble_eq_true rfl)) d_Ed_shift_30 ⟨Nat.le_of_ble_eq_true rfl, Nat.le_of_ble_eq_true rfl⟩) hP hD hS hA [2, 3, 1] [0] rfl rfl (by decide) (by decide) (fun u H locs hp hP hD hS => ?_)
    obtain ⟨f2, s2, rfl, hok⟩ := hp
    have hP : va_P D ecl [(x, .inr (1, [.ref dg, .int (iI (((dl X : Nat) : Int))), .int (iI (pt)), .int (iI (zl)), .ref q])), (q, .inr (0, [.ref pa, .int (iI ((s2 : Int)))])), (pa, .inl (cI, 306, .inl f2)), (dg, .inl (cB, 1200, .inl g))] H := hP
    have hD : va_D A [(x, .inr (1, [.ref dg, .int (iI (((dl X : Nat) : Int))), .int (iI (pt)), .int (iI (zl)), .ref q])), (q, .inr (0, [.ref pa, .int (iI ((s2 : Int)))])), (pa, .inl (cI, 306, .inl f2)), (dg, .inl (cB, 1200, .inl g))] := hD
    refine lv_aload_n hx hb d_Ed_shift_33 rfl (lv_at hl 0 rfl) ?_
    refine va_get (D := D) (ci := 1) (v := .int (iI (pt))) (C := R_Ed) (T := T_Ed) (N := 5) hx hb hts (fun w h => List.mem_cons_of_mem _ (in_Ed w h)) hown hK hP 0 rfl rfl 2 (by decide) (hts _ (List.mem_cons_of_mem _ tw_42)) (fun _ h9 => h9) rfl d_Ed_shift_34 ?_
    refine lv_aload_n hx hb d_Ed_shift_37 rfl (lv_at hl 0 rfl) ?_
    refine va_get (D := D) (ci := 1) (v := .int (iI (((dl X : Nat) : Int)))) (C := R_Ed) (T := T_Ed) (N := 5) hx hb hts (fun w h => List.mem_cons_of_mem _ (in_Ed w h)) hown hK hP 0 rfl rfl 1 (by decide) (hts _ (List.mem_cons_of_mem _ tw_41)) (fun _ h9 => h9) rfl d_Ed_shift_38 ?_
    refine ed_pc (pc' := 41) rfl ?_
    refine ed_isub hx hb d_Ed_shift_41 ?_
    refine lv_aload_n hx hb d_Ed_shift_42 rfl (lv_at hl 0 rfl) ?_
    refine va_get (D := D) (ci := 1) (v := .ref q) (C := R_Ed) (T := T_Ed) (N := 5) hx hb hts (fun w h => List.mem_cons_of_mem _ (in_Ed w h)) hown hK hP 0 rfl rfl 4 (by decide) (hts _ (List.mem_cons_of_mem _ tw_44)) (fun _ h9 => h9) rfl d_Ed_shift_43 ?_
    refine lv_iload_n hx hb d_Ed_shift_46 rfl (lv_at hl 1 rfl) ?_
    refine c_fi (wc := [(q, .inr (0, [.ref pa, .int (iI ((s2 : Int)))])), (pa, .inl (cI, 306, .inl f2))]) (wr := [(x, .inr (1, [.ref dg, .int (iI (((dl X : Nat) : Int))), .int (iI (pt)), .int (iI (zl)), .ref q])), (dg, .inl (cB, 1200, .inl g))]) (va_runV (C := "ExactDigits$Natural") (As := [.int (iI (k))]) (rest := [.int (iI ((pt) - (((dl X : Nat) : Int))))]) ⟨hx, hb, hml, hown, hts⟩ (c_Na_timesTwoTo l D cB cI cJ t5 ad q pa f2 s2 X k (by omega) hok hXR H.size) (cwV 1 hts (gV tw_118 tw_119 tw_120 tw_2 tw_121) rfl rfl rfl (by decide +kernel) ⟨Nat.le_of_ble_eq_true rfl, Nat.le_of_ble_eq_true rfl⟩) ⟨c_blind (eX_X t5 ad), va_recv (ci := 0) (q0 := 1) hK hP rfl rfl, fun U hU hW => c_pre (wc := [(q, .inr (0, [.ref pa, .int (iI ((s2 : Int)))])), (pa, .inl (cI, 306, .inl f2))]) (eX_X t5 ad) hE hK hP hD hS hA [1, 2] rfl (by decide) U hU hW⟩ rfl rfl hl.1 rfl (lv_room (Nat.le_of_ble_eq_true rfl)) d_Ed_shift_47 ⟨Nat.le_of_ble_eq_true rfl, Nat.le_of_ble_eq_true rfl⟩) hP hD hS hA [1, 2] [0, 3] rfl rfl (by decide) (by decide) (fun r u H locs hp hP hD hS => ?_)
    obtain ⟨rfl, f3, s3, rfl, hok3⟩ := hp
    have hP : va_P D ecl [(x, .inr (1, [.ref dg, .int (iI (((dl X : Nat) : Int))), .int (iI (pt)), .int (iI (zl)), .ref q])), (dg, .inl (cB, 1200, .inl g)), (q, .inr (0, [.ref pa, .int (iI ((s3 : Int)))])), (pa, .inl (cI, 306, .inl f3))] H := hP
    have hD : va_D A [(x, .inr (1, [.ref dg, .int (iI (((dl X : Nat) : Int))), .int (iI (pt)), .int (iI (zl)), .ref q])), (dg, .inl (cB, 1200, .inl g)), (q, .inr (0, [.ref pa, .int (iI ((s3 : Int)))])), (pa, .inl (cI, 306, .inl f3))] := hD
    refine ed_iadd hx hb d_Ed_shift_50 ?_
    refine ed_tz (y := (pt - ((dl X : Nat) : Int) + min k 0)) (rfl) ?_
    refine lv_istore_n hx hb d_Ed_shift_51 rfl hl (by decide) rfl (fun ls hl => ?_)
    have hl : lv_has ls 4 [(2, .int (iI ((pt - ((dl X : Nat) : Int) + min k 0)))), (0, .ref x), (1, .int (iI (k)))] := hl
    refine lv_aload_n hx hb d_Ed_shift_52 rfl (lv_at hl 1 rfl) ?_
    refine ed_pc (pc' := 53) rfl ?_
    refine va_get (D := D) (ci := 1) (v := .int (iI (zl))) (C := R_Ed) (T := T_Ed) (N := 5) hx hb hts (fun w h => List.mem_cons_of_mem _ (in_Ed w h)) hown hK hP 0 rfl rfl 3 (by decide) (hts _ (List.mem_cons_of_mem _ tw_43)) (fun _ h9 => h9) rfl d_Ed_shift_53 ?_
    refine lv_istore_n hx hb d_Ed_shift_56 rfl hl (by decide) rfl (fun ls hl => ?_)
    have hl : lv_has ls 4 [(3, .int (iI (zl))), (2, .int (iI ((pt - ((dl X : Nat) : Int) + min k 0)))), (0, .ref x), (1, .int (iI (k)))] := hl
    refine lv_aload_n hx hb d_Ed_shift_57 rfl (lv_at hl 2 rfl) ?_
    refine lv_iload_n hx hb d_Ed_shift_58 rfl (lv_at hl 1 rfl) ?_
    refine c_fv (wc := [(x, .inr (1, [.ref dg, .int (iI (((dl X : Nat) : Int))), .int (iI (pt)), .int (iI (zl)), .ref q])), (dg, .inl (cB, 1200, .inl g)), (q, .inr (0, [.ref pa, .int (iI ((s3 : Int)))])), (pa, .inl (cI, 306, .inl f3))]) (wr := []) (va_runV (C := "ExactDigits") (As := [.int (iI ((pt - ((dl X : Nat) : Int) + min k 0)))]) (rest := []) ⟨hx, hb, hml, hown, hts⟩ (c_Ed_giveScratch l D cB cI cJ t5 ad x dg q pa g f3 s3 (X * tw2 k) ((dl X : Nat) : Int) pt zl (pt - ((dl X : Nat) : Int) + min k 0) (by omega) hok3 H.size) (cwV 1 hts (gV tw_66 tw_68 ts_0 tw_1 tw_69) rfl rfl rfl (by decide +kernel) ⟨Nat.le_of_ble_eq_true rfl, Nat.le_of_ble_eq_true rfl⟩) ⟨c_blind (eX_X t5 ad), va_recv (ci := 1) (q0 := 0) hK hP rfl rfl, fun U hU hW => c_pre (wc := [(x, .inr (1, [.ref dg, .int (iI (((dl X : Nat) : Int))), .int (iI (pt)), .int (iI (zl)), .ref q])), (dg, .inl (cB, 1200, .inl g)), (q, .inr (0, [.ref pa, .int (iI ((s3 : Int)))])), (pa, .inl (cI, 306, .inl f3))]) (eX_X t5 ad) hE hK hP hD hS hA [0, 1, 2, 3] rfl (by decide) U hU hW⟩ rfl rfl hl.1 rfl (lv_room (Nat.le_of_ble_eq_true rfl)) d_Ed_shift_59 ⟨Nat.le_of_ble_eq_true rfl, Nat.le_of_ble_eq_true rfl⟩) hP hD hS hA [0, 1, 2, 3] [] rfl rfl (by decide) (by decide) (fun u H locs hp hP hD hS => ?_)
    obtain ⟨g3, hn3, rfl⟩ := hp
    have hP : va_P D ecl [(x, .inr (1, [.ref dg, .int (iI (((dl (gvD (X * tw2 k)) : Nat) : Int))), .int (iI (if (X * tw2 k) = 0 then 0 else ((dl (X * tw2 k) : Nat) : Int) + (pt - ((dl X : Nat) : Int) + min k 0))), .int (iI (hdb (X * tw2 k) (((dl (X * tw2 k) : Nat) : Int) - 1200))), .ref q])), (dg, .inl (cB, 1200, .inl g3)), (q, .inr (0, [.ref pa, .int (iI ((s3 : Int)))])), (pa, .inl (cI, 306, .inl f3))] H := hP
    have hD : va_D A [(x, .inr (1, [.ref dg, .int (iI (((dl (gvD (X * tw2 k)) : Nat) : Int))), .int (iI (if (X * tw2 k) = 0 then 0 else ((dl (X * tw2 k) : Nat) : Int) + (pt - ((dl X : Nat) : Int) + min k 0))), .int (iI (hdb (X * tw2 k) (((dl (X * tw2 k) : Nat) : Int) - 1200))), .ref q])), (dg, .inl (cB, 1200, .inl g3)), (q, .inr (0, [.ref pa, .int (iI ((s3 : Int)))])), (pa, .inl (cI, 306, .inl f3))] := hD
    have hh01 := hdb_or (X * tw2 k) (((dl (X * tw2 k) : Nat) : Int) - 1200)
    refine lv_aload_n hx hb d_Ed_shift_62 rfl (lv_at hl 2 rfl) ?_
    refine lv_aload_n hx hb d_Ed_shift_63 rfl (lv_at hl 2 rfl) ?_
    refine va_get (D := D) (ci := 1) (v := .int (iI (hdb (X * tw2 k) (((dl (X * tw2 k) : Nat) : Int) - 1200)))) (C := R_Ed) (T := T_Ed) (N := 5) hx hb hts (fun w h => List.mem_cons_of_mem _ (in_Ed w h)) hown hK hP 0 rfl rfl 3 (by decide) (hts _ (List.mem_cons_of_mem _ tw_43)) (fun _ h9 => h9) rfl d_Ed_shift_64 ?_
    refine ed_pc (pc' := 67) rfl ?_
    refine ed_if_ne (tgt := 74) hx hb d_Ed_shift_67 rfl (by omega) (fun h_2 => ?_) (fun h_2 => ?_)
    · skip
      refine ed_pc (pc' := 74) rfl ?_
      refine lv_iconst (v := iI 1) hx hb d_Ed_shift_74 rfl ?_
      refine lv_goto (tgt := 79) hx hb d_Ed_shift_75 rfl ?_
      refine va_put (D := D) (ci := 1) (v := .int (iI (1))) (ty := .boolean) (C := R_Ed) (T := T_Ed) (N := 5) hx hb hts (fun w h => List.mem_cons_of_mem _ (in_Ed w h)) y_Ed t_Ed n_Ed hown hK hP hD hS 0 rfl rfl 3 (by decide) (hts _ (List.mem_cons_of_mem _ tw_43)) (fun _ h9 => h9) rfl (by decide +kernel) (by decide +kernel) (by decide +kernel) (Nat.le_of_ble_eq_true rfl) d_Ed_shift_79 (fun H locs hP hD hS => ?_)
      have hP : va_P D ecl [(x, .inr (1, [.ref dg, .int (iI (((dl (gvD (X * tw2 k)) : Nat) : Int))), .int (iI (if (X * tw2 k) = 0 then 0 else ((dl (X * tw2 k) : Nat) : Int) + (pt - ((dl X : Nat) : Int) + min k 0))), .int (iI (1)), .ref q])), (dg, .inl (cB, 1200, .inl g3)), (q, .inr (0, [.ref pa, .int (iI ((s3 : Int)))])), (pa, .inl (cI, 306, .inl f3))] H := hP
      have hD : va_D A [(x, .inr (1, [.ref dg, .int (iI (((dl (gvD (X * tw2 k)) : Nat) : Int))), .int (iI (if (X * tw2 k) = 0 then 0 else ((dl (X * tw2 k) : Nat) : Int) + (pt - ((dl X : Nat) : Int) + min k 0))), .int (iI (1)), .ref q])), (dg, .inl (cB, 1200, .inl g3)), (q, .inr (0, [.ref pa, .int (iI ((s3 : Int)))])), (pa, .inl (cI, 306, .inl f3))] := hD
      refine lv_aload_n hx hb d_Ed_shift_82 rfl (lv_at hl 2 rfl) ?_
      refine va_get (D := D) (ci := 1) (v := .int (iI (((dl (gvD (X * tw2 k)) : Nat) : Int)))) (C := R_Ed) (T := T_Ed) (N := 5) hx hb hts (fun w h => List.mem_cons_of_mem _ (in_Ed w h)) hown hK hP 0 rfl rfl 1 (by decide) (hts _ (List.mem_cons_of_mem _ tw_41)) (fun _ h9 => h9) rfl d_Ed_shift_83 ?_
      exact W.iret (v := (iI (((dl (gvD (X * tw2 k)) : Nat) : Int)))) hx hb hr (fun t9 ht9 hW9 => ⟨⟨(iI (((dl (gvD (X * tw2 k)) : Nat) : Int))), [(x, .inr (1, [.ref dg, .int (iI (((dl (gvD (X * tw2 k)) : Nat) : Int))), .int (iI (if (X * tw2 k) = 0 then 0 else ((dl (X * tw2 k) : Nat) : Int) + (pt - ((dl X : Nat) : Int) + min k 0))), .int (iI (1)), .ref q])), (dg, .inl (cB, 1200, .inl g3)), (q, .inr (0, [.ref pa, .int (iI ((s3 : Int)))])), (pa, .inl (cI, 306, .inl f3))], rfl, ⟨rfl, g3, f3, _, 1, hn3, Or.inl ⟨rfl, by omega⟩, rfl⟩, by rw [ht9]; exact hP, hD⟩, hS.F ht9⟩) hS.2.2 d_Ed_shift_86
    · skip
      refine ed_pc (pc' := 70) rfl ?_
      refine lv_iload_n hx hb d_Ed_shift_70 rfl (lv_at hl 0 rfl) ?_
      refine ed_if_eq (tgt := 78) hx hb d_Ed_shift_71 rfl (by omega) (fun h_3 => ?_) (fun h_3 => ?_)
      · skip
        refine ed_pc (pc' := 78) rfl ?_
        refine lv_iconst (v := iI 0) hx hb d_Ed_shift_78 rfl ?_
        refine va_put (D := D) (ci := 1) (v := .int (iI (0))) (ty := .boolean) (C := R_Ed) (T := T_Ed) (N := 5) hx hb hts (fun w h => List.mem_cons_of_mem _ (in_Ed w h)) y_Ed t_Ed n_Ed hown hK hP hD hS 0 rfl rfl 3 (by decide) (hts _ (List.mem_cons_of_mem _ tw_43)) (fun _ h9 => h9) rfl (by decide +kernel) (by decide +kernel) (by decide +kernel) (Nat.le_of_ble_eq_true rfl) d_Ed_shift_79 (fun H locs hP hD hS => ?_)
        have hP : va_P D ecl [(x, .inr (1, [.ref dg, .int (iI (((dl (gvD (X * tw2 k)) : Nat) : Int))), .int (iI (if (X * tw2 k) = 0 then 0 else ((dl (X * tw2 k) : Nat) : Int) + (pt - ((dl X : Nat) : Int) + min k 0))), .int (iI (0)), .ref q])), (dg, .inl (cB, 1200, .inl g3)), (q, .inr (0, [.ref pa, .int (iI ((s3 : Int)))])), (pa, .inl (cI, 306, .inl f3))] H := hP
        have hD : va_D A [(x, .inr (1, [.ref dg, .int (iI (((dl (gvD (X * tw2 k)) : Nat) : Int))), .int (iI (if (X * tw2 k) = 0 then 0 else ((dl (X * tw2 k) : Nat) : Int) + (pt - ((dl X : Nat) : Int) + min k 0))), .int (iI (0)), .ref q])), (dg, .inl (cB, 1200, .inl g3)), (q, .inr (0, [.ref pa, .int (iI ((s3 : Int)))])), (pa, .inl (cI, 306, .inl f3))] := hD
        refine lv_aload_n hx hb d_Ed_shift_82 rfl (lv_at hl 2 rfl) ?_
        refine va_get (D := D) (ci := 1) (v := .int (iI (((dl (gvD (X * tw2 k)) : Nat) : Int)))) (C := R_Ed) (T := T_Ed) (N := 5) hx hb hts (fun w h => List.mem_cons_of_mem _ (in_Ed w h)) hown hK hP 0 rfl rfl 1 (by decide) (hts _ (List.mem_cons_of_mem _ tw_41)) (fun _ h9 => h9) rfl d_Ed_shift_83 ?_
        exact W.iret (v := (iI (((dl (gvD (X * tw2 k)) : Nat) : Int)))) hx hb hr (fun t9 ht9 hW9 => ⟨⟨(iI (((dl (gvD (X * tw2 k)) : Nat) : Int))), [(x, .inr (1, [.ref dg, .int (iI (((dl (gvD (X * tw2 k)) : Nat) : Int))), .int (iI (if (X * tw2 k) = 0 then 0 else ((dl (X * tw2 k) : Nat) : Int) + (pt - ((dl X : Nat) : Int) + min k 0))), .int (iI (0)), .ref q])), (dg, .inl (cB, 1200, .inl g3)), (q, .inr (0, [.ref pa, .int (iI ((s3 : Int)))])), (pa, .inl (cI, 306, .inl f3))], rfl, ⟨rfl, g3, f3, _, 0, hn3, Or.inr ⟨rfl, by omega⟩, rfl⟩, by rw [ht9]; exact hP, hD⟩, hS.F ht9⟩) hS.2.2 d_Ed_shift_86
      · skip
        refine ed_pc (pc' := 74) rfl ?_
        refine lv_iconst (v := iI 1) hx hb d_Ed_shift_74 rfl ?_
        refine lv_goto (tgt := 79) hx hb d_Ed_shift_75 rfl ?_
        refine va_put (D := D) (ci := 1) (v := .int (iI (1))) (ty := .boolean) (C := R_Ed) (T := T_Ed) (N := 5) hx hb hts (fun w h => List.mem_cons_of_mem _ (in_Ed w h)) y_Ed t_Ed n_Ed hown hK hP hD hS 0 rfl rfl 3 (by decide) (hts _ (List.mem_cons_of_mem _ tw_43)) (fun _ h9 => h9) rfl (by decide +kernel) (by decide +kernel) (by decide +kernel) (Nat.le_of_ble_eq_true rfl) d_Ed_shift_79 (fun H locs hP hD hS => ?_)
        have hP : va_P D ecl [(x, .inr (1, [.ref dg, .int (iI (((dl (gvD (X * tw2 k)) : Nat) : Int))), .int (iI (if (X * tw2 k) = 0 then 0 else ((dl (X * tw2 k) : Nat) : Int) + (pt - ((dl X : Nat) : Int) + min k 0))), .int (iI (1)), .ref q])), (dg, .inl (cB, 1200, .inl g3)), (q, .inr (0, [.ref pa, .int (iI ((s3 : Int)))])), (pa, .inl (cI, 306, .inl f3))] H := hP
        have hD : va_D A [(x, .inr (1, [.ref dg, .int (iI (((dl (gvD (X * tw2 k)) : Nat) : Int))), .int (iI (if (X * tw2 k) = 0 then 0 else ((dl (X * tw2 k) : Nat) : Int) + (pt - ((dl X : Nat) : Int) + min k 0))), .int (iI (1)), .ref q])), (dg, .inl (cB, 1200, .inl g3)), (q, .inr (0, [.ref pa, .int (iI ((s3 : Int)))])), (pa, .inl (cI, 306, .inl f3))] := hD
        refine lv_aload_n hx hb d_Ed_shift_82 rfl (lv_at hl 2 rfl) ?_
        refine va_get (D := D) (ci := 1) (v := .int (iI (((dl (gvD (X * tw2 k)) : Nat) : Int)))) (C := R_Ed) (T := T_Ed) (N := 5) hx hb hts (fun w h => List.mem_cons_of_mem _ (in_Ed w h)) hown hK hP 0 rfl rfl 1 (by decide) (hts _ (List.mem_cons_of_mem _ tw_41)) (fun _ h9 => h9) rfl d_Ed_shift_83 ?_
        exact W.iret (v := (iI (((dl (gvD (X * tw2 k)) : Nat) : Int)))) hx hb hr (fun t9 ht9 hW9 => ⟨⟨(iI (((dl (gvD (X * tw2 k)) : Nat) : Int))), [(x, .inr (1, [.ref dg, .int (iI (((dl (gvD (X * tw2 k)) : Nat) : Int))), .int (iI (if (X * tw2 k) = 0 then 0 else ((dl (X * tw2 k) : Nat) : Int) + (pt - ((dl X : Nat) : Int) + min k 0))), .int (iI (1)), .ref q])), (dg, .inl (cB, 1200, .inl g3)), (q, .inr (0, [.ref pa, .int (iI ((s3 : Int)))])), (pa, .inl (cI, 306, .inl f3))], rfl, ⟨rfl, g3, f3, _, 1, hn3, Or.inl ⟨rfl, by omega⟩, rfl⟩, by rw [ht9]; exact hP, hD⟩, hS.F ht9⟩) hS.2.2 d_Ed_shift_86
  · exact absurd h_1 (by omega)
set_option maxHeartbeats 4000000 in
set_option maxRecDepth 100000 in
theorem c_Ed_shift_no (l : Launch) (hl0 : l.stackTraces = false) (D : va_G) (cB cI cJ : ClassId) (t5 : Nat) (ad : Nat → Nat) (x dg q : Nat) (g : Nat → Int32) (zc pt zl n : Int) (hk : iR n) (hm : n < -2200 ∨ 2200 < n) : c_T l m_Ed_shift (Cond.code m_Ed_shift b_Ed_shift 4 (some .int) :: gw) (rmx_ 6 93) (eX t5 ad) D ecl (tyS cB cI cJ) [.ref x, .int (iI (n))] [(x, .inr (1, [.ref dg, .int (iI (zc)), .int (iI (pt)), .int (iI (zl)), .ref q])), (dg, .inl (cB, 1200, .inl g))] xIA := by
  intro sz0
  refine vx_ofW (cc := b_Ed_shift) (maxL := 4) (ret := (some .int)) (by decide) rfl ?_
  intro p e s m args below meth c s₁ B hml htab hv
  obtain ⟨rfl, hsz, hP, hK, hD0, hE⟩ := hv
  have hx := B.exec
  have hb := B.bytes
  have hr := B.returns
  have hts := atoms_spec (ws := Cond.code m_Ed_shift b_Ed_shift 4 (some .int) :: gw) B.pre
  have hown : s.vm.findClass R_Ed = some m.cls := findClass_of_methodNamed B.named
  have hlocks := B.notSynchronized
  subst hsz
  have hD := hD0.self (sz := s.heap.size)
  generalize hAe : va_A [(x, .inr (1, [.ref dg, .int (iI (zc)), .int (iI (pt)), .int (iI (zl)), .ref q])), (dg, .inl (cB, 1200, .inl g))] s.heap.size = A at hD hE ⊢
  have hA : ∀ q : Nat, s.heap.size ≤ q → A q := fun q h => by rw [← hAe]; exact Or.inr h
  have hS : va_S A s.heap s.heap [] := va_S.rf
  have hl := lv_entry ([.ref x, .int (iI (n))]) (n := 4) (Nat.le_of_ble_eq_true rfl)
  rw [lg_entry_eq]
  generalize (lg_sl ([.ref x, .int (iI (n))]) ++ List.replicate (4 - (lg_sl ([.ref x, .int (iI (n))])).length) Slot.unset).toArray = ls at hl ⊢
  have hl : lv_has ls 4 [(0, .ref x), (1, .int (iI (n)))] := hl
  refine lv_iload_n hx hb d_Ed_shift_0 rfl (lv_at hl 1 rfl) ?_
  refine lv_sipush (v := iI 2200) hx hb d_Ed_shift_1 (by decide +kernel) ?_
  refine c_fi (wc := []) (wr := [(x, .inr (1, [.ref dg, .int (iI (zc)), .int (iI (pt)), .int (iI (zl)), .ref q])), (dg, .inl (cB, 1200, .inl g))]) (va_runS (As := [.int (iI (n)), .int (iI (2200))]) (rest := []) ⟨hx, hb, hml, hown, hts⟩ (c_Ed_isBeyond l D cB cI cJ t5 ad (n) 2200 (by omega) (by omega) s.heap.size) (va_cwS 2 hts (gS tw_281 tw_282 tw_1 tw_283) rfl rfl rfl (by decide +kernel) ⟨Nat.le_of_ble_eq_true rfl, Nat.le_of_ble_eq_true rfl⟩) ⟨c_blind (eX_X t5 ad), fun U hU hW => c_pre (wc := []) (eX_X t5 ad) hE hK hP hD hS hA [] rfl (by decide) U hU hW⟩ rfl rfl hl.1 rfl (lv_room (Nat.le_of_ble_eq_true rfl)) d_Ed_shift_4 ⟨Nat.le_of_ble_eq_true rfl, Nat.le_of_ble_eq_true rfl⟩) hP hD hS hA [] [0, 1] rfl rfl (by decide) (by decide) (fun r u H locs hp hP hD hS => ?_)
  obtain ⟨rfl, rfl⟩ := hp
  have hP : va_P D ecl [(x, .inr (1, [.ref dg, .int (iI (zc)), .int (iI (pt)), .int (iI (zl)), .ref q])), (dg, .inl (cB, 1200, .inl g))] H := hP
  have hD : va_D A [(x, .inr (1, [.ref dg, .int (iI (zc)), .int (iI (pt)), .int (iI (zl)), .ref q])), (dg, .inl (cB, 1200, .inl g))] := hD
  obtain ⟨zb, hzb, hzb2⟩ : ∃ zb : Int, zb = (if n < -2200 ∨ 2200 < n then 1 else 0) ∧ ((zb = 1 ∧ (n < -2200 ∨ 2200 < n)) ∨ (zb = 0 ∧ ¬ (n < -2200 ∨ 2200 < n))) := ⟨_, rfl, by split <;> simp_all⟩
  refine ed_tz (y := zb) (hzb.symm) ?_
  refine ed_if_eq (tgt := 18) hx hb d_Ed_shift_7 rfl (by omega) (fun h_1 => ?_) (fun h_1 => ?_)
  · exact absurd h_1 (by omega)
  · skip
    refine ed_pc (pc' := 10) rfl ?_
    exact vx_throw0 (own := "ExactDigits") (cls := xIA) (names := xNm) (rest := []) hx hb hl0 hown (by decide +kernel) (by decide +kernel) (hts _ (List.mem_cons_of_mem _ tw_284)) (hts _ (List.mem_cons_of_mem _ tw_15)) (vx_hat (fun w h => hts w (List.mem_cons_of_mem _ (ta_IA w h))) tb_IA (eW_IA hE.2.2.2.2.2.2.2.2.2.2.2)) tg_IA hE.2.2.2.2.2.2.2.2.2.1 hE.2.2.2.2.2.2.2.2.2.2.1 hS (hl.1.trans hml.symm) d_Ed_shift_10 d_Ed_shift_13 d_Ed_shift_14 d_Ed_shift_17 (fun x h => (htab x h).elim) (Nat.le_of_ble_eq_true rfl) (Nat.le_of_ble_eq_true rfl) (Nat.le_of_ble_eq_true rfl) (Nat.le_of_ble_eq_true rfl) hlocks (fun t9 hv9 hz9 hk9 => c_xc hP hD hS hz9 hk9) hS.2.2 (Nat.le_of_ble_eq_true rfl) (Nat.le_of_ble_eq_true rfl)
