set_option maxHeartbeats 4000000 in
set_option maxRecDepth 100000 in
/-- digitAt(place) -/
theorem c_Na_digitAt (l : Launch) (D : va_G) (cB cI cJ : ClassId) (t5 : Nat) (ad : Nat → Nat) (q pa : Nat) (f : Nat → Int32) (sz V p0 : Nat) (hV : nt_ok f sz V) (hp : p0 < dl V) : c_I l m_Na_digitAt (Cond.code m_Na_digitAt b_Na_digitAt 4 (some .int) :: gw) (rm_ 0 0) (eX t5 ad) D ecl (tyS cB cI cJ) [.ref q, .int (iI ((p0 : Int)))] [(q, .inr (0, [.ref pa, .int (iI ((sz : Int)))])), (pa, .inl (cI, 306, .inl f))] (fun r u => r = iI ((V / 10 ^ p0 % 10 : Nat) : Int) ∧ u = [(q, .inr (0, [.ref pa, .int (iI ((sz : Int)))])), (pa, .inl (cI, 306, .inl f))]) 0 0 := by
  intro sz0
  refine Met.ofW (cc := b_Na_digitAt) (maxL := 4) (ret := (some .int)) (by decide) rfl ?_
  intro p e s m args below meth c s₁ B hml hv
  obtain ⟨rfl, hsz, hP, hK, hD0, hE⟩ := hv
  have hx := B.exec
  have hb := B.bytes
  have hr := B.returns
  have hts := atoms_spec (ws := Cond.code m_Na_digitAt b_Na_digitAt 4 (some .int) :: gw) B.pre
  have hown : s.vm.findClass R_Na = some m.cls := findClass_of_methodNamed B.named
  have hlocks := B.notSynchronized
  subst hsz
  have hD := hD0.self (sz := s.heap.size)
  generalize hAe : va_A [(q, .inr (0, [.ref pa, .int (iI ((sz : Int)))])), (pa, .inl (cI, 306, .inl f))] s.heap.size = A at hD hE ⊢
  have hA : ∀ q : Nat, s.heap.size ≤ q → A q := fun q h => by rw [← hAe]; exact Or.inr h
  have hS : va_S A s.heap s.heap [] := va_S.rf
  have hl := lv_entry ([.ref q, .int (iI ((p0 : Int)))]) (n := 4) (Nat.le_of_ble_eq_true rfl)
  rw [lg_entry_eq]
  generalize (lg_sl ([.ref q, .int (iI ((p0 : Int)))]) ++ List.replicate (4 - (lg_sl ([.ref q, .int (iI ((p0 : Int)))])).length) Slot.unset).toArray = ls at hl ⊢
  have hl : lv_has ls 4 [(0, .ref q), (1, .int (iI ((p0 : Int))))] := hl
  have hdl : dl V ≤ 2754 := by
    have hV2 := hV.2.1
    rw [pB_10] at hV2
    exact dl_bound (Nat.lt_of_lt_of_le hV2 (p10_le (by have := hV.1; omega)))
  have hpi := nt_pl hV hp
  have hs306 := hV.1
  have L15 : ∀ (n9 : Nat) (i : Nat) (x : Nat) (zi : Int) (zx : Int) (ls : Array Slot) (H : Heap) (locs : List Loc), i = n9 → (zi = (i : Int)) → (zx = (x : Int)) → (x < 1000000000) → (i < 9) → (x / 10 ^ i = rd V p0) → lv_has ls 4 [(0, .ref q), (2, .int (iI (zx))), (3, .int (iI (zi)))] → va_P D ecl [(q, .inr (0, [.ref pa, .int (iI ((sz : Int)))])), (pa, .inl (cI, 306, .inl f))] H → va_D A [(q, .inr (0, [.ref pa, .int (iI ((sz : Int)))])), (pa, .inl (cI, 306, .inl f))] → va_S A s.heap H locs → W p l e (headSpec (Cond.code m_Na_digitAt b_Na_digitAt 4 (some .int) :: gw) (rm_ 0 0)).room s m ([.ref q, .int (iI ((p0 : Int)))] : List Value).toArray below meth c H locs 0 0 (MQ below (va_Qi (fun r u => r = iI ((V / 10 ^ p0 % 10 : Nat) : Int) ∧ u = [(q, .inr (0, [.ref pa, .int (iI ((sz : Int)))])), (pa, .inl (cI, 306, .inl f))]) (c_B D ecl A) A) ([.ref q, .int (iI ((p0 : Int)))] : List Value).toArray s 0 0 A) (F0 m 15 ls []) := by
    intro n9
    induction n9 using Nat.strongRecOn with
    | ind n9 ih =>
    intro i x zi zx ls H locs hn9 hi hzx hx9 hi9 hxr hl hP hD hS
    refine lv_iload_n hx hb d_Na_digitAt_15 rfl (lv_at hl 2 rfl) ?_
    refine ed_if_le (tgt := 30) hx hb d_Na_digitAt_16 rfl (by omega) (fun h_1 => ?_) (fun h_1 => ?_)
    · skip
      refine ed_pc (pc' := 30) rfl ?_
      refine lv_iload_n hx hb d_Na_digitAt_30 rfl (lv_at hl 1 rfl) ?_
      refine lv_bipush (v := iI 10) hx hb d_Na_digitAt_31 (by decide +kernel) ?_
      refine ed_irem hx hb d_Na_digitAt_33 (by omega) (by omega) (by omega) ?_
      have hi0 : i = 0 := by omega
      rw [hi0, Nat.pow_zero, Nat.div_one] at hxr
      refine ed_tz (y := ((V / 10 ^ p0 % 10 : Nat) : Int)) (by rw [← rd_d, ← hxr]; omega) ?_
      exact W.iret (v := (iI (((V / 10 ^ p0 % 10 : Nat) : Int)))) hx hb hr (fun t9 ht9 hW9 => ⟨⟨(iI (((V / 10 ^ p0 % 10 : Nat) : Int))), [(q, .inr (0, [.ref pa, .int (iI ((sz : Int)))])), (pa, .inl (cI, 306, .inl f))], rfl, ⟨rfl, rfl⟩, by rw [ht9]; exact hP, hD⟩, hS.F ht9⟩) hS.2.2 d_Na_digitAt_34
    · skip
      refine ed_pc (pc' := 19) rfl ?_
      refine lv_iload_n hx hb d_Na_digitAt_19 rfl (lv_at hl 1 rfl) ?_
      refine lv_bipush (v := iI 10) hx hb d_Na_digitAt_20 (by decide +kernel) ?_
      refine ed_idiv hx hb d_Na_digitAt_22 (by omega) (by omega) (by omega) ?_
      refine lv_istore_n hx hb d_Na_digitAt_23 rfl hl (by decide) rfl (fun ls hl => ?_)
      have hl : lv_has ls 4 [(2, .int (iI ((zx) / (10)))), (0, .ref q), (3, .int (iI (zi)))] := hl
      refine lv_iinc (k := 2) (v := iI (zi + (-1))) hx hb d_Na_digitAt_24 hl rfl (iI_add _ _) (by decide) rfl (fun ls hl => ?_)
      have hl : lv_has ls 4 [(3, .int (iI (zi + (-1)))), (2, .int (iI ((zx) / (10)))), (0, .ref q)] := hl
      refine ed_pc (pc' := 27) rfl ?_
      refine lv_goto (tgt := 15) hx hb d_Na_digitAt_27 rfl ?_
      have hl := lv_sub hl [2, 1, 0] rfl
      exact ih _ (by omega) (i - 1) (x / 10) _ _ ls H locs rfl (by omega) (by omega) (by omega) (by omega) (by rw [Nat.div_div_eq_div_mul, ← Nat.pow_succ', ← hxr]; congr 2; omega) hl hP hD hS
  refine lv_aload_n hx hb d_Na_digitAt_0 rfl (lv_at hl 0 rfl) ?_
  refine va_get (D := D) (ci := 0) (v := .ref pa) (C := R_Na) (T := T_Na) (N := 2) hx hb hts (fun w h => List.mem_cons_of_mem _ (in_Na w h)) hown hK hP 0 rfl rfl 0 (by decide) (hts _ (List.mem_cons_of_mem _ tw_31)) (fun _ h9 => h9) rfl d_Na_digitAt_1 ?_
  refine lv_iload_n hx hb d_Na_digitAt_4 rfl (lv_at hl 1 rfl) ?_
  refine lv_bipush (v := iI 9) hx hb d_Na_digitAt_5 (by decide +kernel) ?_
  refine ed_idiv hx hb d_Na_digitAt_7 (by omega) (by omega) (by omega) ?_
  refine ed_iald (y := ((V / 1000000000 ^ (p0 / 9) % 1000000000 : Nat) : Int)) hx hb hK hP 1 1 rfl rfl (p0 / 9) (by omega) (by omega) (by decide) (hV.2.2.2 _ hpi) d_Na_digitAt_8 ?_
  refine lv_istore_n hx hb d_Na_digitAt_9 rfl hl (by decide) rfl (fun ls hl => ?_)
  have hl : lv_has ls 4 [(2, .int (iI (((V / 1000000000 ^ (p0 / 9) % 1000000000 : Nat) : Int)))), (0, .ref q), (1, .int (iI ((p0 : Int))))] := hl
  refine ed_pc (pc' := 10) rfl ?_
  refine lv_iload_n hx hb d_Na_digitAt_10 rfl (lv_at hl 2 rfl) ?_
  refine lv_bipush (v := iI 9) hx hb d_Na_digitAt_11 (by decide +kernel) ?_
  refine ed_irem hx hb d_Na_digitAt_13 (by omega) (by omega) (by omega) ?_
  refine lv_istore_n hx hb d_Na_digitAt_14 rfl hl (by decide) rfl (fun ls hl => ?_)
  have hl : lv_has ls 4 [(3, .int (iI (((p0 : Int)) % (9)))), (2, .int (iI (((V / 1000000000 ^ (p0 / 9) % 1000000000 : Nat) : Int)))), (0, .ref q), (1, .int (iI ((p0 : Int))))] := hl
  have hl := lv_sub hl [2, 1, 0] rfl
  exact L15 _ (p0 % 9) (V / 1000000000 ^ (p0 / 9) % 1000000000) _ _ ls s.heap [] rfl (by omega) (rfl) (nb_lt V _) (by omega) (rfl) hl hP hD hS
set_option maxHeartbeats 4000000 in
set_option maxRecDepth 100000 in
/-- firstDigits(n) -/
theorem c_Na_firstDigits (l : Launch) (D : va_G) (cB cI cJ : ClassId) (t5 : Nat) (ad : Nat → Nat) (q pa : Nat) (f : Nat → Int32) (sz V : Nat) (n : Int) (hn : -1000000 ≤ n ∧ n ≤ 1000000) (hV : nt_ok f sz V) (hb9 : fd V n.toNat < 9223372036854775808) : c_L l m_Na_firstDigits (Cond.code m_Na_firstDigits b_Na_firstDigits 6 (some .long) :: gw) (rm_ 1 23) (eX t5 ad) D ecl (tyS cB cI cJ) [.ref q, .int (iI (n))] [(q, .inr (0, [.ref pa, .int (iI ((sz : Int)))])), (pa, .inl (cI, 306, .inl f))] (fun r u => r = jI ((fd V n.toNat : Nat) : Int) ∧ u = [(q, .inr (0, [.ref pa, .int (iI ((sz : Int)))])), (pa, .inl (cI, 306, .inl f))]) 0 0 := by
  intro sz0
  refine Met.ofW (cc := b_Na_firstDigits) (maxL := 6) (ret := (some .long)) (by decide) rfl ?_
  intro p e s m args below meth c s₁ B hml hv
  obtain ⟨rfl, hsz, hP, hK, hD0, hE⟩ := hv
  have hx := B.exec
  have hb := B.bytes
  have hr := B.returns
  have hts := atoms_spec (ws := Cond.code m_Na_firstDigits b_Na_firstDigits 6 (some .long) :: gw) B.pre
  have hown : s.vm.findClass R_Na = some m.cls := findClass_of_methodNamed B.named
  have hlocks := B.notSynchronized
  subst hsz
  have hD := hD0.self (sz := s.heap.size)
  generalize hAe : va_A [(q, .inr (0, [.ref pa, .int (iI ((sz : Int)))])), (pa, .inl (cI, 306, .inl f))] s.heap.size = A at hD hE ⊢
  have hA : ∀ q : Nat, s.heap.size ≤ q → A q := fun q h => by rw [← hAe]; exact Or.inr h
  have hS : va_S A s.heap s.heap [] := va_S.rf
  have hl := lv_entry ([.ref q, .int (iI (n))]) (n := 6) (Nat.le_of_ble_eq_true rfl)
  rw [lg_entry_eq]
  generalize (lg_sl ([.ref q, .int (iI (n))]) ++ List.replicate (6 - (lg_sl ([.ref q, .int (iI (n))])).length) Slot.unset).toArray = ls at hl ⊢
  have hl : lv_has ls 6 [(0, .ref q), (1, .int (iI (n)))] := hl
  have hdl : dl V ≤ 2754 := by
    have hV2 := hV.2.1
    rw [pB_10] at hV2
    exact dl_bound (Nat.lt_of_lt_of_le hV2 (p10_le (by have := hV.1; omega)))
  have L10 : ∀ (n9 : Nat) (i : Nat) (x : Nat) (zi : Int) (zx : Int) (ls : Array Slot) (H : Heap) (locs : List Loc), n.toNat - i = n9 → (zi = (i : Int)) → (zx = (x : Int)) → (x = fd V i) → (i ≤ n.toNat) → lv_has ls 6 [(0, .ref q), (1, .int (iI (n))), (2, .int (iI (((dl V : Nat) : Int)))), (3, .long (jI (zx))), (5, .int (iI (zi)))] → va_P D ecl [(q, .inr (0, [.ref pa, .int (iI ((sz : Int)))])), (pa, .inl (cI, 306, .inl f))] H → va_D A [(q, .inr (0, [.ref pa, .int (iI ((sz : Int)))])), (pa, .inl (cI, 306, .inl f))] → va_S A s.heap H locs → W p l e (headSpec (Cond.code m_Na_firstDigits b_Na_firstDigits 6 (some .long) :: gw) (rm_ 1 23)).room s m ([.ref q, .int (iI (n))] : List Value).toArray below meth c H locs 0 0 (MQ below (va_Ql (fun r u => r = jI ((fd V n.toNat : Nat) : Int) ∧ u = [(q, .inr (0, [.ref pa, .int (iI ((sz : Int)))])), (pa, .inl (cI, 306, .inl f))]) (c_B D ecl A) A) ([.ref q, .int (iI (n))] : List Value).toArray s 0 0 A) (F0 m 10 ls []) := by
    intro n9
    induction n9 using Nat.strongRecOn with
    | ind n9 ih =>
    intro i x zi zx ls H locs hn9 hi hzx hxr hin hl hP hD hS
    refine lv_iload hx hb d_Na_firstDigits_10 (lv_at hl 4 rfl) ?_
    refine lv_iload_n hx hb d_Na_firstDigits_12 rfl (lv_at hl 1 rfl) ?_
    refine ed_icmp_ge (tgt := 50) hx hb d_Na_firstDigits_13 rfl (by omega) (by omega) (fun h_1 => ?_) (fun h_1 => ?_)
    · skip
      refine ed_pc (pc' := 50) rfl ?_
      refine lv_lload_n hx hb d_Na_firstDigits_50 rfl (lv_at hl 3 rfl) ?_
      have hie : i = n.toNat := by omega
      refine ed_tj (y := ((fd V n.toNat : Nat) : Int)) (by rw [hzx, hxr, hie]) ?_
      exact W.lret (v := (jI (((fd V n.toNat : Nat) : Int)))) hx hb hr (fun t9 ht9 hW9 => ⟨⟨(jI (((fd V n.toNat : Nat) : Int))), [(q, .inr (0, [.ref pa, .int (iI ((sz : Int)))])), (pa, .inl (cI, 306, .inl f))], rfl, ⟨rfl, rfl⟩, by rw [ht9]; exact hP, hD⟩, hS.F ht9⟩) hS.2.2 d_Na_firstDigits_51
    · skip
      refine ed_pc (pc' := 16) rfl ?_
      refine lv_lload_n hx hb d_Na_firstDigits_16 rfl (lv_at hl 3 rfl) ?_
      refine lv_ldc2 (v := 10) hx hb hown (hts _ (List.mem_cons_of_mem _ tw_132)) d_Na_firstDigits_17 ?_
      refine ed_tl (y := (jI (10))) (by decide +kernel) ?_
      refine ed_lmul hx hb d_Na_firstDigits_20 ?_
      refine lv_iload hx hb d_Na_firstDigits_21 (lv_at hl 4 rfl) ?_
      refine ed_pc (pc' := 23) rfl ?_
      refine lv_iload_n hx hb d_Na_firstDigits_23 rfl (lv_at hl 2 rfl) ?_
      refine ed_icmp_ge (tgt := 40) hx hb d_Na_firstDigits_24 rfl (by omega) (by omega) (fun h_2 => ?_) (fun h_2 => ?_)
      · skip
        refine ed_pc (pc' := 40) rfl ?_
        refine lv_iconst (v := iI 0) hx hb d_Na_firstDigits_40 rfl ?_
        refine ed_i2l hx hb d_Na_firstDigits_41 (by omega) ?_
        refine ed_ladd hx hb d_Na_firstDigits_42 ?_
        have hd0 := fd_z (show dl V ≤ i by omega)
        have hmn := fd_mono (V := V) (show i + 1 ≤ n.toNat by omega)
        refine ed_tj (y := ((fd V (i + 1) : Nat) : Int)) (by rw [hd0, hzx, hxr]; omega) ?_
        refine lv_lstore_n hx hb d_Na_firstDigits_43 rfl hl (by decide) rfl (fun ls hl => ?_)
        have hl : lv_has ls 6 [(3, .long (jI (((fd V (i + 1) : Nat) : Int)))), (0, .ref q), (1, .int (iI (n))), (2, .int (iI (((dl V : Nat) : Int)))), (5, .int (iI (zi)))] := hl
        refine lv_iinc (k := 4) (v := iI (zi + 1)) hx hb d_Na_firstDigits_44 hl rfl (iI_add _ _) (by decide) rfl (fun ls hl => ?_)
        have hl : lv_has ls 6 [(5, .int (iI (zi + 1))), (3, .long (jI (((fd V (i + 1) : Nat) : Int)))), (0, .ref q), (1, .int (iI (n))), (2, .int (iI (((dl V : Nat) : Int))))] := hl
        refine lv_goto (tgt := 10) hx hb d_Na_firstDigits_47 rfl ?_
        have hl := lv_sub hl [2, 3, 4, 1, 0] rfl
        exact ih _ (by omega) (i + 1) (fd V (i + 1)) _ _ ls H locs rfl (by omega) (rfl) (rfl) (by omega) hl hP hD hS
      · skip
        refine ed_pc (pc' := 27) rfl ?_
        refine lv_aload_n hx hb d_Na_firstDigits_27 rfl (lv_at hl 0 rfl) ?_
        refine lv_iload_n hx hb d_Na_firstDigits_28 rfl (lv_at hl 2 rfl) ?_
        refine lv_iconst (v := iI 1) hx hb d_Na_firstDigits_29 rfl ?_
        refine ed_isub hx hb d_Na_firstDigits_30 ?_
        refine lv_iload hx hb d_Na_firstDigits_31 (lv_at hl 4 rfl) ?_
        refine ed_isub hx hb d_Na_firstDigits_33 ?_
        refine ed_tz (y := ((dl V - 1 - i : Nat) : Int)) (by omega) ?_
        refine ed_pc (pc' := 34) rfl ?_
        refine c_fi (wc := [(q, .inr (0, [.ref pa, .int (iI ((sz : Int)))])), (pa, .inl (cI, 306, .inl f))]) (wr := []) (va_runV (C := "ExactDigits$Natural") (As := [.int (iI (((dl V - 1 - i : Nat) : Int)))]) (rest := [.long (jI ((zx) * (10)))]) ⟨hx, hb, hml, hown, hts⟩ (c_Na_digitAt l D cB cI cJ t5 ad q pa f sz V (dl V - 1 - i) hV (by omega) H.size) (cwV 1 hts (gV tw_133 tw_135 ts_4 tw_2 tw_136) rfl rfl rfl (by decide +kernel) ⟨Nat.le_of_ble_eq_true rfl, Nat.le_of_ble_eq_true rfl⟩) ⟨c_blind (eX_X t5 ad), va_recv (ci := 0) (q0 := 0) hK hP rfl rfl, fun U hU hW => c_pre (wc := [(q, .inr (0, [.ref pa, .int (iI ((sz : Int)))])), (pa, .inl (cI, 306, .inl f))]) (eX_X t5 ad) hE hK hP hD hS hA [0, 1] rfl (by decide) U hU hW⟩ rfl rfl hl.1 rfl (lv_room (Nat.le_of_ble_eq_true rfl)) d_Na_firstDigits_34 ⟨Nat.le_of_ble_eq_true rfl, Nat.le_of_ble_eq_true rfl⟩) hP hD hS hA [0, 1] [] rfl rfl (by decide) (by decide) (fun r u H locs hp hP hD hS => ?_)
        obtain ⟨rfl, rfl⟩ := hp
        have hP : va_P D ecl [(q, .inr (0, [.ref pa, .int (iI ((sz : Int)))])), (pa, .inl (cI, 306, .inl f))] H := hP
        have hD : va_D A [(q, .inr (0, [.ref pa, .int (iI ((sz : Int)))])), (pa, .inl (cI, 306, .inl f))] := hD
        refine lv_goto (tgt := 41) hx hb d_Na_firstDigits_37 rfl ?_
        refine ed_i2l hx hb d_Na_firstDigits_41 (by omega) ?_
        refine ed_ladd hx hb d_Na_firstDigits_42 ?_
        have hd0 := fd_d (show i < dl V by omega)
        have hdl9 := dg_lt V (dl V - 1 - i)
        have hmn := fd_mono (V := V) (show i + 1 ≤ n.toNat by omega)
        refine ed_tj (y := ((fd V (i + 1) : Nat) : Int)) (by rw [hd0, hzx, hxr]; omega) ?_
        refine lv_lstore_n hx hb d_Na_firstDigits_43 rfl hl (by decide) rfl (fun ls hl => ?_)
        have hl : lv_has ls 6 [(3, .long (jI (((fd V (i + 1) : Nat) : Int)))), (0, .ref q), (1, .int (iI (n))), (2, .int (iI (((dl V : Nat) : Int)))), (5, .int (iI (zi)))] := hl
        refine lv_iinc (k := 4) (v := iI (zi + 1)) hx hb d_Na_firstDigits_44 hl rfl (iI_add _ _) (by decide) rfl (fun ls hl => ?_)
        have hl : lv_has ls 6 [(5, .int (iI (zi + 1))), (3, .long (jI (((fd V (i + 1) : Nat) : Int)))), (0, .ref q), (1, .int (iI (n))), (2, .int (iI (((dl V : Nat) : Int))))] := hl
        refine lv_goto (tgt := 10) hx hb d_Na_firstDigits_47 rfl ?_
        have hl := lv_sub hl [2, 3, 4, 1, 0] rfl
        exact ih _ (by omega) (i + 1) (fd V (i + 1)) _ _ ls H locs rfl (by omega) (rfl) (rfl) (by omega) hl hP hD hS
  refine lv_aload_n hx hb d_Na_firstDigits_0 rfl (lv_at hl 0 rfl) ?_
  refine c_fi (wc := [(q, .inr (0, [.ref pa, .int (iI ((sz : Int)))])), (pa, .inl (cI, 306, .inl f))]) (wr := []) (va_runV (C := "ExactDigits$Natural") (As := []) (rest := []) ⟨hx, hb, hml, hown, hts⟩ (c_Na_length l D cB cI cJ t5 ad q pa f sz V hV s.heap.size) (cwV 0 hts (gV tw_78 tw_71 tw_72 tw_2 tw_73) rfl rfl rfl (by decide +kernel) ⟨Nat.le_of_ble_eq_true rfl, Nat.le_of_ble_eq_true rfl⟩) ⟨c_blind (eX_X t5 ad), va_recv (ci := 0) (q0 := 0) hK hP rfl rfl, fun U hU hW => c_pre (wc := [(q, .inr (0, [.ref pa, .int (iI ((sz : Int)))])), (pa, .inl (cI, 306, .inl f))]) (eX_X t5 ad) hE hK hP hD hS hA [0, 1] rfl (by decide) U hU hW⟩ rfl rfl hl.1 rfl (lv_room (Nat.le_of_ble_eq_true rfl)) d_Na_firstDigits_1 ⟨Nat.le_of_ble_eq_true rfl, Nat.le_of_ble_eq_true rfl⟩) hP hD hS hA [0, 1] [] rfl rfl (by decide) (by decide) (fun r u H locs hp hP hD hS => ?_)
  obtain ⟨rfl, rfl⟩ := hp
  have hP : va_P D ecl [(q, .inr (0, [.ref pa, .int (iI ((sz : Int)))])), (pa, .inl (cI, 306, .inl f))] H := hP
  have hD : va_D A [(q, .inr (0, [.ref pa, .int (iI ((sz : Int)))])), (pa, .inl (cI, 306, .inl f))] := hD
  refine lv_istore_n hx hb d_Na_firstDigits_4 rfl hl (by decide) rfl (fun ls hl => ?_)
  have hl : lv_has ls 6 [(2, .int (iI (((dl V : Nat) : Int)))), (0, .ref q), (1, .int (iI (n)))] := hl
  refine lv_lconst (v := jI 0) hx hb d_Na_firstDigits_5 (by decide +kernel) ?_
  refine lv_lstore_n hx hb d_Na_firstDigits_6 rfl hl (by decide) rfl (fun ls hl => ?_)
  have hl : lv_has ls 6 [(3, .long (jI (0))), (2, .int (iI (((dl V : Nat) : Int)))), (0, .ref q), (1, .int (iI (n)))] := hl
  refine lv_iconst (v := iI 0) hx hb d_Na_firstDigits_7 rfl ?_
  refine lv_istore hx hb d_Na_firstDigits_8 hl (by decide) rfl (fun ls hl => ?_)
  have hl : lv_has ls 6 [(5, .int (iI (0))), (3, .long (jI (0))), (2, .int (iI (((dl V : Nat) : Int)))), (0, .ref q), (1, .int (iI (n)))] := hl
  have hl := lv_sub hl [3, 4, 2, 1, 0] rfl
  exact L10 _ (0) (0) _ _ ls H locs rfl (rfl) (rfl) (by rw [fd_0]) (by omega) hl hP hD hS
