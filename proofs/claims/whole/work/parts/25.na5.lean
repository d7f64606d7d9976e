set_option maxHeartbeats 4000000 in
set_option maxRecDepth 100000 in
/-- hasDigitBelow(place) -/
theorem c_Na_hasDigitBelow (l : Launch) (D : va_G) (cB cI cJ : ClassId) (t5 : Nat) (ad : Nat → Nat) (q pa : Nat) (f : Nat → Int32) (sz V : Nat) (place : Int) (hpl : -1000000 ≤ place ∧ place ≤ 1000000) (hV : nt_ok f sz V) : c_I l m_Na_hasDigitBelow (Cond.code m_Na_hasDigitBelow b_Na_hasDigitBelow 5 (some .boolean) :: gw) (rm_ 1 22) (eX t5 ad) D ecl (tyS cB cI cJ) [.ref q, .int (iI (place))] [(q, .inr (0, [.ref pa, .int (iI ((sz : Int)))])), (pa, .inl (cI, 306, .inl f))] (fun r u => r = iI (hdb V place) ∧ u = [(q, .inr (0, [.ref pa, .int (iI ((sz : Int)))])), (pa, .inl (cI, 306, .inl f))]) 0 0 := by
  intro sz0
  refine Met.ofW (cc := b_Na_hasDigitBelow) (maxL := 5) (ret := (some .boolean)) (by decide) rfl ?_
  intro p e s m args below meth c s₁ B hml hv
  obtain ⟨rfl, hsz, hP, hK, hD0, hE⟩ := hv
  have hx := B.exec
  have hb := B.bytes
  have hr := B.returns
  have hts := atoms_spec (ws := Cond.code m_Na_hasDigitBelow b_Na_hasDigitBelow 5 (some .boolean) :: gw) B.pre
  have hown : s.vm.findClass R_Na = some m.cls := findClass_of_methodNamed B.named
  have hlocks := B.notSynchronized
  subst hsz
  have hD := hD0.self (sz := s.heap.size)
  generalize hAe : va_A [(q, .inr (0, [.ref pa, .int (iI ((sz : Int)))])), (pa, .inl (cI, 306, .inl f))] s.heap.size = A at hD hE ⊢
  have hA : ∀ q : Nat, s.heap.size ≤ q → A q := fun q h => by rw [← hAe]; exact Or.inr h
  have hS : va_S A s.heap s.heap [] := va_S.rf
  have hl := lv_entry ([.ref q, .int (iI (place))]) (n := 5) (Nat.le_of_ble_eq_true rfl)
  rw [lg_entry_eq]
  generalize (lg_sl ([.ref q, .int (iI (place))]) ++ List.replicate (5 - (lg_sl ([.ref q, .int (iI (place))])).length) Slot.unset).toArray = ls at hl ⊢
  have hl : lv_has ls 5 [(0, .ref q), (1, .int (iI (place)))] := hl
  have hdl : dl V ≤ 2754 := by
    have hV2 := hV.2.1
    rw [pB_10] at hV2
    exact dl_bound (Nat.lt_of_lt_of_le hV2 (p10_le (by have := hV.1; omega)))
  have L14 : ∀ (n9 : Nat) (i : Nat) (x : Nat) (zi : Int) (zx : Int) (ls : Array Slot) (H : Heap) (locs : List Loc), dl V - i = n9 → (zi = (i : Int)) → (zx = (x : Int)) → (x < 1000000000) → ((¬ i % 9 = 0 → x = rd V (i - 1))) → (i ≤ dl V) → (((i : Int) ≤ min place ((dl V : Nat) : Int) ∨ i = 0)) → (V % 10 ^ i = 0) → lv_has ls 5 [(0, .ref q), (2, .int (iI (min place ((dl V : Nat) : Int)))), (3, .int (iI (zx))), (4, .int (iI (zi)))] → va_P D ecl [(q, .inr (0, [.ref pa, .int (iI ((sz : Int)))])), (pa, .inl (cI, 306, .inl f))] H → va_D A [(q, .inr (0, [.ref pa, .int (iI ((sz : Int)))])), (pa, .inl (cI, 306, .inl f))] → va_S A s.heap H locs → W p l e (headSpec (Cond.code m_Na_hasDigitBelow b_Na_hasDigitBelow 5 (some .boolean) :: gw) (rm_ 1 22)).room s m ([.ref q, .int (iI (place))] : List Value).toArray below meth c H locs 0 0 (MQ below (va_Qi (fun r u => r = iI (hdb V place) ∧ u = [(q, .inr (0, [.ref pa, .int (iI ((sz : Int)))])), (pa, .inl (cI, 306, .inl f))]) (c_B D ecl A) A) ([.ref q, .int (iI (place))] : List Value).toArray s 0 0 A) (F0 m 14 ls []) := by
    intro n9
    induction n9 using Nat.strongRecOn with
    | ind n9 ih =>
    intro i x zi zx ls H locs hn9 hi hzx hx9 hxr hil hie hm hl hP hD hS
    refine lv_iload hx hb d_Na_hasDigitBelow_14 (lv_at hl 3 rfl) ?_
    refine lv_iload_n hx hb d_Na_hasDigitBelow_16 rfl (lv_at hl 1 rfl) ?_
    refine ed_icmp_ge (tgt := 61) hx hb d_Na_hasDigitBelow_17 rfl (by omega) (by omega) (fun h_1 => ?_) (fun h_1 => ?_)
    · skip
      refine ed_pc (pc' := 61) rfl ?_
      refine lv_iconst (v := iI 0) hx hb d_Na_hasDigitBelow_61 rfl ?_
      exact W.zret (v := (iI (0))) hx hb hr (by decide +kernel) (fun t9 ht9 hW9 => ⟨⟨(iI (0)), [(q, .inr (0, [.ref pa, .int (iI ((sz : Int)))])), (pa, .inl (cI, 306, .inl f))], rfl, ⟨by rw [md_e hm (by omega)], rfl⟩, by rw [ht9]; exact hP, hD⟩, hS.F ht9⟩) hS.2.2 d_Na_hasDigitBelow_62
    · skip
      refine ed_pc (pc' := 20) rfl ?_
      refine lv_iload hx hb d_Na_hasDigitBelow_20 (lv_at hl 3 rfl) ?_
      refine lv_bipush (v := iI 9) hx hb d_Na_hasDigitBelow_22 (by decide +kernel) ?_
      refine ed_irem hx hb d_Na_hasDigitBelow_24 (by omega) (by omega) (by omega) ?_
      refine ed_if_ne (tgt := 41) hx hb d_Na_hasDigitBelow_25 rfl (by omega) (fun h_2 => ?_) (fun h_2 => ?_)
      · skip
        refine ed_pc (pc' := 41) rfl ?_
        refine ed_pc (pc' := 41) rfl ?_
        refine lv_iload_n hx hb d_Na_hasDigitBelow_41 rfl (lv_at hl 2 rfl) ?_
        refine lv_bipush (v := iI 10) hx hb d_Na_hasDigitBelow_42 (by decide +kernel) ?_
        refine ed_idiv hx hb d_Na_hasDigitBelow_44 (by omega) (by omega) (by omega) ?_
        refine ed_tz (y := ((rd V i : Nat) : Int)) (by rw [rd_s (by omega), ← hxr (by omega)]; omega) ?_
        have hrl := rd_lt V i
        refine lv_istore_n hx hb d_Na_hasDigitBelow_45 rfl hl (by decide) rfl (fun ls hl => ?_)
        have hl : lv_has ls 5 [(3, .int (iI (((rd V i : Nat) : Int)))), (0, .ref q), (2, .int (iI (min place ((dl V : Nat) : Int)))), (4, .int (iI (zi)))] := hl
        refine lv_iload_n hx hb d_Na_hasDigitBelow_46 rfl (lv_at hl 0 rfl) ?_
        refine lv_bipush (v := iI 10) hx hb d_Na_hasDigitBelow_47 (by decide +kernel) ?_
        refine ed_irem hx hb d_Na_hasDigitBelow_49 (by omega) (by omega) (by omega) ?_
        refine ed_if_eq (tgt := 55) hx hb d_Na_hasDigitBelow_50 rfl (by omega) (fun h_3 => ?_) (fun h_3 => ?_)
        · skip
          refine ed_pc (pc' := 55) rfl ?_
          refine ed_pc (pc' := 55) rfl ?_
          refine lv_iinc (k := 3) (v := iI (zi + 1)) hx hb d_Na_hasDigitBelow_55 hl rfl (iI_add _ _) (by decide) rfl (fun ls hl => ?_)
          have hl : lv_has ls 5 [(4, .int (iI (zi + 1))), (3, .int (iI (((rd V i : Nat) : Int)))), (0, .ref q), (2, .int (iI (min place ((dl V : Nat) : Int))))] := hl
          refine lv_goto (tgt := 14) hx hb d_Na_hasDigitBelow_58 rfl ?_
          have hl := lv_sub hl [2, 3, 1, 0] rfl
          exact ih _ (by omega) (i + 1) (rd V i) _ _ ls H locs rfl (by omega) (rfl) (rd_lt V i) (fun _ => by rw [Nat.add_sub_cancel]) (by omega) (Or.inl (by omega)) (md_s hm (by rw [← rd_d]; omega)) hl hP hD hS
        · skip
          refine ed_pc (pc' := 53) rfl ?_
          refine ed_pc (pc' := 53) rfl ?_
          refine lv_iconst (v := iI 1) hx hb d_Na_hasDigitBelow_53 rfl ?_
          exact W.zret (v := (iI (1))) hx hb hr (by decide +kernel) (fun t9 ht9 hW9 => ⟨⟨(iI (1)), [(q, .inr (0, [.ref pa, .int (iI ((sz : Int)))])), (pa, .inl (cI, 306, .inl f))], rfl, ⟨by rw [md_n (i := i) (by rw [← rd_d]; omega) (by omega)], rfl⟩, by rw [ht9]; exact hP, hD⟩, hS.F ht9⟩) hS.2.2 d_Na_hasDigitBelow_54
      · skip
        refine ed_pc (pc' := 28) rfl ?_
        refine ed_pc (pc' := 28) rfl ?_
        refine lv_aload_n hx hb d_Na_hasDigitBelow_28 rfl (lv_at hl 0 rfl) ?_
        refine va_get (D := D) (ci := 0) (v := .ref pa) (C := R_Na) (T := T_Na) (N := 2) hx hb hts (fun w h => List.mem_cons_of_mem _ (in_Na w h)) hown hK hP 0 rfl rfl 0 (by decide) (hts _ (List.mem_cons_of_mem _ tw_31)) (fun _ h9 => h9) rfl d_Na_hasDigitBelow_29 ?_
        refine lv_iload hx hb d_Na_hasDigitBelow_32 (lv_at hl 3 rfl) ?_
        refine lv_bipush (v := iI 9) hx hb d_Na_hasDigitBelow_34 (by decide +kernel) ?_
        refine ed_idiv hx hb d_Na_hasDigitBelow_36 (by omega) (by omega) (by omega) ?_
        have hpi := nt_pl hV (show i < dl V by omega)
        have hs306 := hV.1
        refine ed_iald (y := ((rd V i : Nat) : Int)) hx hb hK hP 1 1 rfl rfl (i / 9) (by omega) (by omega) (by decide) (by rw [rd_0 (by omega)]; exact hV.2.2.2 (i / 9) (nt_pl hV (by omega))) d_Na_hasDigitBelow_37 ?_
        refine lv_goto (tgt := 45) hx hb d_Na_hasDigitBelow_38 rfl ?_
        have hrl := rd_lt V i
        refine lv_istore_n hx hb d_Na_hasDigitBelow_45 rfl hl (by decide) rfl (fun ls hl => ?_)
        have hl : lv_has ls 5 [(3, .int (iI (((rd V i : Nat) : Int)))), (0, .ref q), (2, .int (iI (min place ((dl V : Nat) : Int)))), (4, .int (iI (zi)))] := hl
        refine ed_pc (pc' := 46) rfl ?_
        refine lv_iload_n hx hb d_Na_hasDigitBelow_46 rfl (lv_at hl 0 rfl) ?_
        refine lv_bipush (v := iI 10) hx hb d_Na_hasDigitBelow_47 (by decide +kernel) ?_
        refine ed_irem hx hb d_Na_hasDigitBelow_49 (by omega) (by omega) (by omega) ?_
        refine ed_if_eq (tgt := 55) hx hb d_Na_hasDigitBelow_50 rfl (by omega) (fun h_4 => ?_) (fun h_4 => ?_)
        · skip
          refine ed_pc (pc' := 55) rfl ?_
          refine lv_iinc (k := 3) (v := iI (zi + 1)) hx hb d_Na_hasDigitBelow_55 hl rfl (iI_add _ _) (by decide) rfl (fun ls hl => ?_)
          have hl : lv_has ls 5 [(4, .int (iI (zi + 1))), (3, .int (iI (((rd V i : Nat) : Int)))), (0, .ref q), (2, .int (iI (min place ((dl V : Nat) : Int))))] := hl
          refine lv_goto (tgt := 14) hx hb d_Na_hasDigitBelow_58 rfl ?_
          have hl := lv_sub hl [2, 3, 1, 0] rfl
          exact ih _ (by omega) (i + 1) (rd V i) _ _ ls H locs rfl (by omega) (rfl) (rd_lt V i) (fun _ => by rw [Nat.add_sub_cancel]) (by omega) (Or.inl (by omega)) (md_s hm (by rw [← rd_d]; omega)) hl hP hD hS
        · skip
          refine ed_pc (pc' := 53) rfl ?_
          refine lv_iconst (v := iI 1) hx hb d_Na_hasDigitBelow_53 rfl ?_
          exact W.zret (v := (iI (1))) hx hb hr (by decide +kernel) (fun t9 ht9 hW9 => ⟨⟨(iI (1)), [(q, .inr (0, [.ref pa, .int (iI ((sz : Int)))])), (pa, .inl (cI, 306, .inl f))], rfl, ⟨by rw [md_n (i := i) (by rw [← rd_d]; omega) (by omega)], rfl⟩, by rw [ht9]; exact hP, hD⟩, hS.F ht9⟩) hS.2.2 d_Na_hasDigitBelow_54
  refine lv_iload_n hx hb d_Na_hasDigitBelow_0 rfl (lv_at hl 1 rfl) ?_
  refine lv_aload_n hx hb d_Na_hasDigitBelow_1 rfl (lv_at hl 0 rfl) ?_
  refine c_fi (wc := [(q, .inr (0, [.ref pa, .int (iI ((sz : Int)))])), (pa, .inl (cI, 306, .inl f))]) (wr := []) (va_runV (C := "ExactDigits$Natural") (As := []) (rest := [.int (iI (place))]) ⟨hx, hb, hml, hown, hts⟩ (c_Na_length l D cB cI cJ t5 ad q pa f sz V hV s.heap.size) (cwV 0 hts (gV tw_78 tw_71 tw_72 tw_2 tw_73) rfl rfl rfl (by decide +kernel) ⟨Nat.le_of_ble_eq_true rfl, Nat.le_of_ble_eq_true rfl⟩) ⟨c_blind (eX_X t5 ad), va_recv (ci := 0) (q0 := 0) hK hP rfl rfl, fun U hU hW => c_pre (wc := [(q, .inr (0, [.ref pa, .int (iI ((sz : Int)))])), (pa, .inl (cI, 306, .inl f))]) (eX_X t5 ad) hE hK hP hD hS hA [0, 1] rfl (by decide) U hU hW⟩ rfl rfl hl.1 rfl (lv_room (Nat.le_of_ble_eq_true rfl)) d_Na_hasDigitBelow_2 ⟨Nat.le_of_ble_eq_true rfl, Nat.le_of_ble_eq_true rfl⟩) hP hD hS hA [0, 1] [] rfl rfl (by decide) (by decide) (fun r u H locs hp hP hD hS => ?_)
  obtain ⟨rfl, rfl⟩ := hp
  have hP : va_P D ecl [(q, .inr (0, [.ref pa, .int (iI ((sz : Int)))])), (pa, .inl (cI, 306, .inl f))] H := hP
  have hD : va_D A [(q, .inr (0, [.ref pa, .int (iI ((sz : Int)))])), (pa, .inl (cI, 306, .inl f))] := hD
  refine ed_min hx hb (hml.trans hl.1.symm) hown (hts _ (List.mem_cons_of_mem _ tw_83)) (hts _ (List.mem_cons_of_mem _ tw_84)) (hts _ (List.mem_cons_of_mem _ tw_6)) (hts _ (List.mem_cons_of_mem _ tw_85)) (Nat.le_of_ble_eq_true rfl) (Nat.le_of_ble_eq_true rfl) (Nat.le_of_ble_eq_true rfl) (Nat.le_of_ble_eq_true rfl) (by omega) (by omega) d_Na_hasDigitBelow_5 ?_
  refine lv_istore_n hx hb d_Na_hasDigitBelow_8 rfl hl (by decide) rfl (fun ls hl => ?_)
  have hl : lv_has ls 5 [(2, .int (iI (min (place) (((dl V : Nat) : Int))))), (0, .ref q), (1, .int (iI (place)))] := hl
  refine lv_iconst (v := iI 0) hx hb d_Na_hasDigitBelow_9 rfl ?_
  refine lv_istore_n hx hb d_Na_hasDigitBelow_10 rfl hl (by decide) rfl (fun ls hl => ?_)
  have hl : lv_has ls 5 [(3, .int (iI (0))), (2, .int (iI (min (place) (((dl V : Nat) : Int))))), (0, .ref q), (1, .int (iI (place)))] := hl
  refine ed_pc (pc' := 11) rfl ?_
  refine lv_iconst (v := iI 0) hx hb d_Na_hasDigitBelow_11 rfl ?_
  refine lv_istore hx hb d_Na_hasDigitBelow_12 hl (by decide) rfl (fun ls hl => ?_)
  have hl : lv_has ls 5 [(4, .int (iI (0))), (3, .int (iI (0))), (2, .int (iI (min (place) (((dl V : Nat) : Int))))), (0, .ref q), (1, .int (iI (place)))] := hl
  have hl := lv_sub hl [3, 2, 1, 0] rfl
  exact L14 _ (0) (0) _ _ ls H locs rfl (rfl) (rfl) (by omega) (fun z => absurd rfl z) (by omega) (Or.inr rfl) (by rw [Nat.pow_zero, Nat.mod_one]) hl hP hD hS
