set_option maxHeartbeats 4000000 in
set_option maxRecDepth 100000 in
theorem c_De_digit (l : Launch) (D : va_G) (cB cI cJ : ClassId) (t5 : Nat) (ad : Nat → Nat) (dc dw fr to : Nat) (f : Nat → Int32) (T Pn : Nat) (pz : Int) (hde : de_ok f fr to T) (hPn : pz + 3780 = (Pn : Int)) (hpz : -3780 ≤ pz ∧ pz < 0) : c_I l m_De_digit (Cond.code m_De_digit b_De_digit 6 (some .int) :: gw) (rm_ 0 0) (eX t5 ad) D ecl (tyS cB cI cJ) [.ref dc, .int (iI (pz))] [(dc, .inr (2, [.ref dw, .int (iI ((fr : Int))), .int (iI ((to : Int)))])), (dw, .inl (cI, 465, .inl f))] (fun r u => r = iI ((T / 10 ^ Pn % 10 : Nat) : Int) ∧ u = [(dc, .inr (2, [.ref dw, .int (iI ((fr : Int))), .int (iI ((to : Int)))])), (dw, .inl (cI, 465, .inl f))]) 0 0 := by
  intro sz0
  refine Met.ofW (cc := b_De_digit) (maxL := 6) (ret := (some .int)) (by decide) rfl ?_
  intro p e s m args below meth c s₁ B hml hv
  obtain ⟨rfl, hsz, hP, hK, hD0, hE⟩ := hv
  have hx := B.exec
  have hb := B.bytes
  have hr := B.returns
  have hts := atoms_spec (ws := Cond.code m_De_digit b_De_digit 6 (some .int) :: gw) B.pre
  have hown : s.vm.findClass R_De = some m.cls := findClass_of_methodNamed B.named
  have hlocks := B.notSynchronized
  subst hsz
  have hD := hD0.self (sz := s.heap.size)
  generalize hAe : va_A [(dc, .inr (2, [.ref dw, .int (iI ((fr : Int))), .int (iI ((to : Int)))])), (dw, .inl (cI, 465, .inl f))] s.heap.size = A at hD hE ⊢
  have hA : ∀ q : Nat, s.heap.size ≤ q → A q := fun q h => by rw [← hAe]; exact Or.inr h
  have hS : va_S A s.heap s.heap [] := va_S.rf
  have hl := lv_entry ([.ref dc, .int (iI (pz))]) (n := 6) (Nat.le_of_ble_eq_true rfl)
  rw [lg_entry_eq]
  generalize (lg_sl ([.ref dc, .int (iI (pz))]) ++ List.replicate (6 - (lg_sl ([.ref dc, .int (iI (pz))])).length) Slot.unset).toArray = ls at hl ⊢
  have hl : lv_has ls 6 [(0, .ref dc), (1, .int (iI (pz)))] := hl
  obtain ⟨h1, h2, h3, h4, h5, h6⟩ := hde
  obtain ⟨j, hj⟩ : ∃ j : Nat, j = Pn / 9 := ⟨_, rfl⟩
  obtain ⟨i, hi⟩ : ∃ i : Nat, i = Pn % 9 := ⟨_, rfl⟩
  have hdw := (dd_w (T := T) hj hi).resolve_right (by omega)
  obtain ⟨w0, hw0⟩ : ∃ w0 : Nat, w0 = wq T (464 - j) := ⟨_, rfl⟩
  have hw9 := wq_lt T (464 - j)
  rw [← hw0] at hw9 hdw
  have L76 : ∀ (n9 : Nat) (t : Nat) (vv : Nat) (zt : Int) (zv : Int) (zi : Int) (ls : Array Slot) (H : Heap) (locs : List Loc), i - t = n9 → (zt = (t : Int)) → (zv = (vv : Int)) → (vv = w0 / 10 ^ t) → (vv < 1000000000) → (zi = (i : Int)) → (t ≤ i) → lv_has ls 6 [(0, .ref dc), (3, .int (iI (zi))), (4, .int (iI (zv))), (5, .int (iI (zt)))] → va_P D ecl [(dc, .inr (2, [.ref dw, .int (iI ((fr : Int))), .int (iI ((to : Int)))])), (dw, .inl (cI, 465, .inl f))] H → va_D A [(dc, .inr (2, [.ref dw, .int (iI ((fr : Int))), .int (iI ((to : Int)))])), (dw, .inl (cI, 465, .inl f))] → va_S A s.heap H locs → W p l e (headSpec (Cond.code m_De_digit b_De_digit 6 (some .int) :: gw) (rm_ 0 0)).room s m ([.ref dc, .int (iI (pz))] : List Value).toArray below meth c H locs 0 0 (MQ below (va_Qi (fun r u => r = iI ((T / 10 ^ Pn % 10 : Nat) : Int) ∧ u = [(dc, .inr (2, [.ref dw, .int (iI ((fr : Int))), .int (iI ((to : Int)))])), (dw, .inl (cI, 465, .inl f))]) (c_B D ecl A) A) ([.ref dc, .int (iI (pz))] : List Value).toArray s 0 0 A) (F0 m 76 ls []) := by
    intro n9
    induction n9 using Nat.strongRecOn with
    | ind n9 ih =>
    intro t vv zt zv zi ls H locs hn9 hzt hzv hvv hvb hzi ht hl hP hD hS
    refine lv_iload hx hb d_De_digit_76 (lv_at hl 3 rfl) ?_
    refine lv_iload_n hx hb d_De_digit_78 rfl (lv_at hl 1 rfl) ?_
    refine ed_icmp_ge (tgt := 95) hx hb d_De_digit_79 rfl (by omega) (by omega) (fun h_1 => ?_) (fun h_1 => ?_)
    · skip
      refine ed_pc (pc' := 95) rfl ?_
      refine lv_iload hx hb d_De_digit_95 (lv_at hl 2 rfl) ?_
      refine lv_bipush (v := iI 10) hx hb d_De_digit_97 (by decide +kernel) ?_
      refine ed_irem hx hb d_De_digit_99 (by omega) (by omega) (by omega) ?_
      have hti : t = i := by omega
      rw [hti] at hvv
      refine ed_tz (y := ((vv % 10 : Nat) : Int)) (by omega) ?_
      exact W.iret (v := (iI (((vv % 10 : Nat) : Int)))) hx hb hr (fun t9 ht9 hW9 => ⟨⟨(iI (((vv % 10 : Nat) : Int))), [(dc, .inr (2, [.ref dw, .int (iI ((fr : Int))), .int (iI ((to : Int)))])), (dw, .inl (cI, 465, .inl f))], rfl, ⟨by rw [hvv, hdw], rfl⟩, by rw [ht9]; exact hP, hD⟩, hS.F ht9⟩) hS.2.2 d_De_digit_100
    · skip
      refine ed_pc (pc' := 82) rfl ?_
      refine lv_iload hx hb d_De_digit_82 (lv_at hl 2 rfl) ?_
      refine lv_bipush (v := iI 10) hx hb d_De_digit_84 (by decide +kernel) ?_
      refine ed_idiv hx hb d_De_digit_86 (by omega) (by omega) (by omega) ?_
      refine lv_istore hx hb d_De_digit_87 hl (by decide) rfl (fun ls hl => ?_)
      have hl : lv_has ls 6 [(4, .int (iI ((zv) / (10)))), (0, .ref dc), (3, .int (iI (zi))), (5, .int (iI (zt)))] := hl
      refine ed_pc (pc' := 89) rfl ?_
      refine lv_iinc (k := 3) (v := iI (zt + 1)) hx hb d_De_digit_89 hl rfl (iI_add _ _) (by decide) rfl (fun ls hl => ?_)
      have hl : lv_has ls 6 [(5, .int (iI (zt + 1))), (4, .int (iI ((zv) / (10)))), (0, .ref dc), (3, .int (iI (zi)))] := hl
      refine lv_goto (tgt := 76) hx hb d_De_digit_92 rfl ?_
      have hl := lv_sub hl [2, 3, 1, 0] rfl
      exact ih _ (by omega) (t + 1) (vv / 10) _ _ _ ls H locs rfl (by omega) (by omega) (by rw [hvv, Nat.pow_succ, Nat.div_div_eq_div_mul]) (by omega) (hzi) (by omega) hl hP hD hS
  refine lv_iload_n hx hb d_De_digit_0 rfl (lv_at hl 1 rfl) ?_
  refine ed_if_lt (tgt := 14) hx hb d_De_digit_1 rfl (by omega) (fun h_2 => ?_) (fun h_2 => ?_)
  · skip
    refine ed_pc (pc' := 14) rfl ?_
    refine lv_bipush (v := iI 45) hx hb d_De_digit_14 (by decide +kernel) ?_
    refine lv_iload_n hx hb d_De_digit_16 rfl (lv_at hl 1 rfl) ?_
    refine ed_ineg hx hb d_De_digit_17 ?_
    refine lv_iconst (v := iI 1) hx hb d_De_digit_18 rfl ?_
    refine ed_isub hx hb d_De_digit_19 ?_
    refine ed_pc (pc' := 20) rfl ?_
    refine lv_bipush (v := iI 9) hx hb d_De_digit_20 (by decide +kernel) ?_
    refine ed_idiv hx hb d_De_digit_22 (by omega) (by omega) (by omega) ?_
    refine ed_iadd hx hb d_De_digit_23 ?_
    refine lv_istore_n hx hb d_De_digit_24 rfl hl (by decide) rfl (fun ls hl => ?_)
    have hl : lv_has ls 6 [(2, .int (iI ((45) + (((-(pz)) - (1)) / (9))))), (0, .ref dc), (1, .int (iI (pz)))] := hl
    refine lv_iload_n hx hb d_De_digit_25 rfl (lv_at hl 2 rfl) ?_
    refine ed_if_lt (tgt := 36) hx hb d_De_digit_26 rfl (by omega) (fun h_3 => ?_) (fun h_3 => ?_)
    · skip
      refine ed_pc (pc' := 36) rfl ?_
      refine lv_bipush (v := iI 8) hx hb d_De_digit_36 (by decide +kernel) ?_
      refine lv_iload_n hx hb d_De_digit_38 rfl (lv_at hl 2 rfl) ?_
      refine ed_pc (pc' := 39) rfl ?_
      refine ed_ineg hx hb d_De_digit_39 ?_
      refine lv_iconst (v := iI 1) hx hb d_De_digit_40 rfl ?_
      refine ed_isub hx hb d_De_digit_41 ?_
      refine lv_bipush (v := iI 9) hx hb d_De_digit_42 (by decide +kernel) ?_
      refine ed_irem hx hb d_De_digit_44 (by omega) (by omega) (by omega) ?_
      refine ed_isub hx hb d_De_digit_45 ?_
      refine lv_istore_n hx hb d_De_digit_46 rfl hl (by decide) rfl (fun ls hl => ?_)
      have hl : lv_has ls 6 [(3, .int (iI ((8) - (((-(pz)) - (1)) % (9))))), (2, .int (iI ((45) + (((-(pz)) - (1)) / (9))))), (0, .ref dc), (1, .int (iI (pz)))] := hl
      refine lv_iload_n hx hb d_De_digit_47 rfl (lv_at hl 1 rfl) ?_
      refine ed_pc (pc' := 48) rfl ?_
      refine lv_aload_n hx hb d_De_digit_48 rfl (lv_at hl 2 rfl) ?_
      refine va_get (D := D) (ci := 2) (v := .int (iI ((fr : Int)))) (C := R_De) (T := T_De) (N := 3) hx hb hts (fun w h => List.mem_cons_of_mem _ (in_De w h)) hown hK hP 0 rfl rfl 1 (by decide) (hts _ (List.mem_cons_of_mem _ tw_380)) (fun _ h9 => h9) rfl d_De_digit_49 ?_
      refine ed_icmp_lt (tgt := 63) hx hb d_De_digit_52 rfl (by omega) (by omega) (fun h_4 => ?_) (fun h_4 => ?_)
      · skip
        refine ed_pc (pc' := 63) rfl ?_
        refine lv_iconst (v := iI 0) hx hb d_De_digit_63 rfl ?_
        have hw00 : w0 = 0 := by
          rw [hw0]
          rcases Nat.lt_or_ge (464 - j) fr with z | z
          · exact wq_hi h4 z (by omega)
          · exact wq_lo h5 (by omega) (by omega)
        rw [hw00, Nat.zero_div] at hdw
        exact W.iret (v := (iI (0))) hx hb hr (fun t9 ht9 hW9 => ⟨⟨(iI (0)), [(dc, .inr (2, [.ref dw, .int (iI ((fr : Int))), .int (iI ((to : Int)))])), (dw, .inl (cI, 465, .inl f))], rfl, ⟨by rw [← hdw]; rfl, rfl⟩, by rw [ht9]; exact hP, hD⟩, hS.F ht9⟩) hS.2.2 d_De_digit_64
      · skip
        refine ed_pc (pc' := 55) rfl ?_
        refine lv_iload_n hx hb d_De_digit_55 rfl (lv_at hl 1 rfl) ?_
        refine lv_aload_n hx hb d_De_digit_56 rfl (lv_at hl 2 rfl) ?_
        refine va_get (D := D) (ci := 2) (v := .int (iI ((to : Int)))) (C := R_De) (T := T_De) (N := 3) hx hb hts (fun w h => List.mem_cons_of_mem _ (in_De w h)) hown hK hP 0 rfl rfl 2 (by decide) (hts _ (List.mem_cons_of_mem _ tw_382)) (fun _ h9 => h9) rfl d_De_digit_57 ?_
        refine ed_icmp_lt (tgt := 65) hx hb d_De_digit_60 rfl (by omega) (by omega) (fun h_5 => ?_) (fun h_5 => ?_)
        · skip
          refine ed_pc (pc' := 65) rfl ?_
          refine lv_aload_n hx hb d_De_digit_65 rfl (lv_at hl 2 rfl) ?_
          refine ed_pc (pc' := 66) rfl ?_
          refine va_get (D := D) (ci := 2) (v := .ref dw) (C := R_De) (T := T_De) (N := 3) hx hb hts (fun w h => List.mem_cons_of_mem _ (in_De w h)) hown hK hP 0 rfl rfl 0 (by decide) (hts _ (List.mem_cons_of_mem _ tw_378)) (fun _ h9 => h9) rfl d_De_digit_66 ?_
          refine lv_iload_n hx hb d_De_digit_69 rfl (lv_at hl 1 rfl) ?_
          refine ed_iald (y := (w0 : Int)) hx hb hK hP 1 1 rfl rfl (464 - j) (by omega) (by omega) (by decide) (by rw [hw0]; exact h6 _ (by omega)) d_De_digit_70 ?_
          refine lv_istore hx hb d_De_digit_71 hl (by decide) rfl (fun ls hl => ?_)
          have hl : lv_has ls 6 [(4, .int (iI ((w0 : Int)))), (3, .int (iI ((8) - (((-(pz)) - (1)) % (9))))), (2, .int (iI ((45) + (((-(pz)) - (1)) / (9))))), (0, .ref dc), (1, .int (iI (pz)))] := hl
          refine lv_iconst (v := iI 0) hx hb d_De_digit_73 rfl ?_
          refine lv_istore hx hb d_De_digit_74 hl (by decide) rfl (fun ls hl => ?_)
          have hl : lv_has ls 6 [(5, .int (iI (0))), (4, .int (iI ((w0 : Int)))), (3, .int (iI ((8) - (((-(pz)) - (1)) % (9))))), (2, .int (iI ((45) + (((-(pz)) - (1)) / (9))))), (0, .ref dc), (1, .int (iI (pz)))] := hl
          have hl := lv_sub hl [4, 2, 1, 0] rfl
          exact L76 _ (0) (w0) _ _ _ ls s.heap [] rfl (rfl) (rfl) (by simp) (hw9) (by omega) (by omega) hl hP hD hS
        · skip
          refine ed_pc (pc' := 63) rfl ?_
          refine lv_iconst (v := iI 0) hx hb d_De_digit_63 rfl ?_
          have hw00 : w0 = 0 := by
            rw [hw0]
            rcases Nat.lt_or_ge (464 - j) fr with z | z
            · exact wq_hi h4 z (by omega)
            · exact wq_lo h5 (by omega) (by omega)
          rw [hw00, Nat.zero_div] at hdw
          exact W.iret (v := (iI (0))) hx hb hr (fun t9 ht9 hW9 => ⟨⟨(iI (0)), [(dc, .inr (2, [.ref dw, .int (iI ((fr : Int))), .int (iI ((to : Int)))])), (dw, .inl (cI, 465, .inl f))], rfl, ⟨by rw [← hdw]; rfl, rfl⟩, by rw [ht9]; exact hP, hD⟩, hS.F ht9⟩) hS.2.2 d_De_digit_64
    · exact absurd h_3 (by omega)
  · exact absurd h_2 (by omega)
set_option maxHeartbeats 4000000 in
set_option maxRecDepth 100000 in
theorem c_De_low (l : Launch) (D : va_G) (cB cI cJ : ClassId) (t5 : Nat) (ad : Nat → Nat) (dc dw fr to : Nat) (f : Nat → Int32) (hto : to ≤ 400) : c_I l m_De_low (Cond.code m_De_low b_De_low 1 (some .int) :: gw) (rm_ 1 21) (eX t5 ad) D ecl (tyS cB cI cJ) [.ref dc] [(dc, .inr (2, [.ref dw, .int (iI ((fr : Int))), .int (iI ((to : Int)))])), (dw, .inl (cI, 465, .inl f))] (fun r u => r = iI (9 * (45 - max (to : Int) 45)) ∧ u = [(dc, .inr (2, [.ref dw, .int (iI ((fr : Int))), .int (iI ((to : Int)))])), (dw, .inl (cI, 465, .inl f))]) 0 0 := by
  intro sz0
  refine Met.ofW (cc := b_De_low) (maxL := 1) (ret := (some .int)) (by decide) rfl ?_
  intro p e s m args below meth c s₁ B hml hv
  obtain ⟨rfl, hsz, hP, hK, hD0, hE⟩ := hv
  have hx := B.exec
  have hb := B.bytes
  have hr := B.returns
  have hts := atoms_spec (ws := Cond.code m_De_low b_De_low 1 (some .int) :: gw) B.pre
  have hown : s.vm.findClass R_De = some m.cls := findClass_of_methodNamed B.named
  have hlocks := B.notSynchronized
  subst hsz
  have hD := hD0.self (sz := s.heap.size)
  generalize hAe : va_A [(dc, .inr (2, [.ref dw, .int (iI ((fr : Int))), .int (iI ((to : Int)))])), (dw, .inl (cI, 465, .inl f))] s.heap.size = A at hD hE ⊢
  have hA : ∀ q : Nat, s.heap.size ≤ q → A q := fun q h => by rw [← hAe]; exact Or.inr h
  have hS : va_S A s.heap s.heap [] := va_S.rf
  have hl := lv_entry ([.ref dc]) (n := 1) (Nat.le_of_ble_eq_true rfl)
  rw [lg_entry_eq]
  generalize (lg_sl ([.ref dc]) ++ List.replicate (1 - (lg_sl ([.ref dc])).length) Slot.unset).toArray = ls at hl ⊢
  have hl : lv_has ls 1 [(0, .ref dc)] := hl
  refine lv_bipush (v := iI 9) hx hb d_De_low_0 (by decide +kernel) ?_
  refine lv_bipush (v := iI 45) hx hb d_De_low_2 (by decide +kernel) ?_
  refine lv_aload_n hx hb d_De_low_4 rfl (lv_at hl 0 rfl) ?_
  refine va_get (D := D) (ci := 2) (v := .int (iI ((to : Int)))) (C := R_De) (T := T_De) (N := 3) hx hb hts (fun w h => List.mem_cons_of_mem _ (in_De w h)) hown hK hP 0 rfl rfl 2 (by decide) (hts _ (List.mem_cons_of_mem _ tw_382)) (fun _ h9 => h9) rfl d_De_low_5 ?_
  refine lv_bipush (v := iI 45) hx hb d_De_low_8 (by decide +kernel) ?_
  refine ed_max hx hb (hml.trans hl.1.symm) hown (hts _ (List.mem_cons_of_mem _ tw_546)) (hts _ (List.mem_cons_of_mem _ tw_146)) (hts _ (List.mem_cons_of_mem _ tw_6)) (hts _ (List.mem_cons_of_mem _ tw_147)) (Nat.le_of_ble_eq_true rfl) (Nat.le_of_ble_eq_true rfl) (Nat.le_of_ble_eq_true rfl) (Nat.le_of_ble_eq_true rfl) (by omega) (by omega) d_De_low_10 ?_
  refine ed_isub hx hb d_De_low_13 ?_
  refine ed_pc (pc' := 14) rfl ?_
  refine ed_imul hx hb d_De_low_14 ?_
  exact W.iret (v := (iI ((9) * ((45) - (max ((to : Int)) (45)))))) hx hb hr (fun t9 ht9 hW9 => ⟨⟨(iI ((9) * ((45) - (max ((to : Int)) (45))))), [(dc, .inr (2, [.ref dw, .int (iI ((fr : Int))), .int (iI ((to : Int)))])), (dw, .inl (cI, 465, .inl f))], rfl, ⟨rfl, rfl⟩, by rw [ht9]; exact hP, hD⟩, hS.F ht9⟩) hS.2.2 d_De_low_15
set_option maxHeartbeats 4000000 in
set_option maxRecDepth 100000 in
theorem c_De_isBelow (l : Launch) (D : va_G) (cB cI cJ : ClassId) (t5 : Nat) (ad : Nat → Nat) (dc dw fr to : Nat) (f : Nat → Int32) (T Pn : Nat) (pz : Int) (hde : de_ok f fr to T) (hPn : pz + 3780 = (Pn : Int)) (hpz : -500 ≤ pz ∧ pz < 0) : c_I l m_De_isBelow (Cond.code m_De_isBelow b_De_isBelow 3 (some .boolean) :: gw) (rm_ 2 41) (eX t5 ad) D ecl (tyS cB cI cJ) [.ref dc, .int (iI (pz))] [(dc, .inr (2, [.ref dw, .int (iI ((fr : Int))), .int (iI ((to : Int)))])), (dw, .inl (cI, 465, .inl f))] (fun r u => (∃ z : Int, r = iI z ∧ ((z = 1 ∧ ¬ T % 10 ^ Pn = 0) ∨ (z = 0 ∧ T % 10 ^ Pn = 0))) ∧ u = [(dc, .inr (2, [.ref dw, .int (iI ((fr : Int))), .int (iI ((to : Int)))])), (dw, .inl (cI, 465, .inl f))]) 0 0 := by
  intro sz0
  refine Met.ofW (cc := b_De_isBelow) (maxL := 3) (ret := (some .boolean)) (by decide) rfl ?_
  intro p e s m args below meth c s₁ B hml hv
  obtain ⟨rfl, hsz, hP, hK, hD0, hE⟩ := hv
  have hx := B.exec
  have hb := B.bytes
  have hr := B.returns
  have hts := atoms_spec (ws := Cond.code m_De_isBelow b_De_isBelow 3 (some .boolean) :: gw) B.pre
  have hown : s.vm.findClass R_De = some m.cls := findClass_of_methodNamed B.named
  have hlocks := B.notSynchronized
  subst hsz
  have hD := hD0.self (sz := s.heap.size)
  generalize hAe : va_A [(dc, .inr (2, [.ref dw, .int (iI ((fr : Int))), .int (iI ((to : Int)))])), (dw, .inl (cI, 465, .inl f))] s.heap.size = A at hD hE ⊢
  have hA : ∀ q : Nat, s.heap.size ≤ q → A q := fun q h => by rw [← hAe]; exact Or.inr h
  have hS : va_S A s.heap s.heap [] := va_S.rf
  have hl := lv_entry ([.ref dc, .int (iI (pz))]) (n := 3) (Nat.le_of_ble_eq_true rfl)
  rw [lg_entry_eq]
  generalize (lg_sl ([.ref dc, .int (iI (pz))]) ++ List.replicate (3 - (lg_sl ([.ref dc, .int (iI (pz))])).length) Slot.unset).toArray = ls at hl ⊢
  have hl : lv_has ls 3 [(0, .ref dc), (1, .int (iI (pz)))] := hl
  have h2 := hde.2.1
  have h5 := hde.2.2.2.2.1
  have L4 : ∀ (n9 : Nat) (t : Nat) (zq : Int) (ls : Array Slot) (H : Heap) (locs : List Loc), Pn - t = n9 → (zq = pz - 1 - (t : Int)) → (t ≤ Pn) → (T % 10 ^ Pn < 10 ^ (Pn - t)) → lv_has ls 3 [(0, .ref dc), (2, .int (iI (zq)))] → va_P D ecl [(dc, .inr (2, [.ref dw, .int (iI ((fr : Int))), .int (iI ((to : Int)))])), (dw, .inl (cI, 465, .inl f))] H → va_D A [(dc, .inr (2, [.ref dw, .int (iI ((fr : Int))), .int (iI ((to : Int)))])), (dw, .inl (cI, 465, .inl f))] → va_S A s.heap H locs → W p l e (headSpec (Cond.code m_De_isBelow b_De_isBelow 3 (some .boolean) :: gw) (rm_ 2 41)).room s m ([.ref dc, .int (iI (pz))] : List Value).toArray below meth c H locs 0 0 (MQ below (va_Qi (fun r u => (∃ z : Int, r = iI z ∧ ((z = 1 ∧ ¬ T % 10 ^ Pn = 0) ∨ (z = 0 ∧ T % 10 ^ Pn = 0))) ∧ u = [(dc, .inr (2, [.ref dw, .int (iI ((fr : Int))), .int (iI ((to : Int)))])), (dw, .inl (cI, 465, .inl f))]) (c_B D ecl A) A) ([.ref dc, .int (iI (pz))] : List Value).toArray s 0 0 A) (F0 m 4 ls []) := by
    intro n9
    induction n9 using Nat.strongRecOn with
    | ind n9 ih =>
    intro t zq ls H locs hn9 hzq htP hR hl hP hD hS
    refine lv_iload_n hx hb d_De_isBelow_4 rfl (lv_at hl 1 rfl) ?_
    refine lv_aload_n hx hb d_De_isBelow_5 rfl (lv_at hl 0 rfl) ?_
    refine c_fi (wc := [(dc, .inr (2, [.ref dw, .int (iI ((fr : Int))), .int (iI ((to : Int)))])), (dw, .inl (cI, 465, .inl f))]) (wr := []) (va_runV (C := "ExactDigitsModel$Decimal") (As := []) (rest := [.int (iI (zq))]) ⟨hx, hb, hml, hown, hts⟩ (c_De_low l D cB cI cJ t5 ad dc dw fr to f h2 H.size) (cwV 0 hts (gV tw_583 tw_584 tw_585 tw_5 tw_586) rfl rfl rfl (by decide +kernel) ⟨Nat.le_of_ble_eq_true rfl, Nat.le_of_ble_eq_true rfl⟩) ⟨c_blind (eX_X t5 ad), va_recv (ci := 2) (q0 := 0) hK hP rfl rfl, fun U hU hW => c_pre (wc := [(dc, .inr (2, [.ref dw, .int (iI ((fr : Int))), .int (iI ((to : Int)))])), (dw, .inl (cI, 465, .inl f))]) (eX_X t5 ad) hE hK hP hD hS hA [0, 1] rfl (by decide) U hU hW⟩ rfl rfl hl.1 rfl (lv_room (Nat.le_of_ble_eq_true rfl)) d_De_isBelow_6 ⟨Nat.le_of_ble_eq_true rfl, Nat.le_of_ble_eq_true rfl⟩) hP hD hS hA [0, 1] [] rfl rfl (by decide) (by decide) (fun r u H locs hp hP hD hS => ?_)
    obtain ⟨rfl, rfl⟩ := hp
    have hP : va_P D ecl [(dc, .inr (2, [.ref dw, .int (iI ((fr : Int))), .int (iI ((to : Int)))])), (dw, .inl (cI, 465, .inl f))] H := hP
    have hD : va_D A [(dc, .inr (2, [.ref dw, .int (iI ((fr : Int))), .int (iI ((to : Int)))])), (dw, .inl (cI, 465, .inl f))] := hD
    refine ed_icmp_lt (tgt := 28) hx hb d_De_isBelow_9 rfl (by omega) (by omega) (fun h_1 => ?_) (fun h_1 => ?_)
    · skip
      refine ed_pc (pc' := 28) rfl ?_
      refine lv_iconst (v := iI 0) hx hb d_De_isBelow_28 rfl ?_
      exact W.zret (v := (iI (0))) hx hb hr (by decide +kernel) (fun t9 ht9 hW9 => ⟨⟨(iI (0)), [(dc, .inr (2, [.ref dw, .int (iI ((fr : Int))), .int (iI ((to : Int)))])), (dw, .inl (cI, 465, .inl f))], rfl, ⟨⟨0, rfl, Or.inr ⟨rfl, bz_e h5 hR (by omega)⟩⟩, rfl⟩, by rw [ht9]; exact hP, hD⟩, hS.F ht9⟩) hS.2.2 d_De_isBelow_29
    · skip
      refine ed_pc (pc' := 12) rfl ?_
      refine lv_aload_n hx hb d_De_isBelow_12 rfl (lv_at hl 0 rfl) ?_
      refine lv_iload_n hx hb d_De_isBelow_13 rfl (lv_at hl 1 rfl) ?_
      obtain ⟨e9, he9⟩ : ∃ e9 : Nat, e9 = T / 10 ^ (Pn - 1 - t) % 10 := ⟨_, rfl⟩
      have he10 : e9 < 10 := by rw [he9]; exact dg_lt _ _
      refine c_fi (wc := [(dc, .inr (2, [.ref dw, .int (iI ((fr : Int))), .int (iI ((to : Int)))])), (dw, .inl (cI, 465, .inl f))]) (wr := []) (va_runV (C := "ExactDigitsModel$Decimal") (As := [.int (iI (zq))]) (rest := []) ⟨hx, hb, hml, hown, hts⟩ (c_De_digit l D cB cI cJ t5 ad dc dw fr to f T (Pn - 1 - t) zq hde (by omega) (by omega) H.size) (cwV 1 hts (gV tw_587 tw_576 tw_577 tw_5 tw_578) rfl rfl rfl (by decide +kernel) ⟨Nat.le_of_ble_eq_true rfl, Nat.le_of_ble_eq_true rfl⟩) ⟨c_blind (eX_X t5 ad), va_recv (ci := 2) (q0 := 0) hK hP rfl rfl, fun U hU hW => c_pre (wc := [(dc, .inr (2, [.ref dw, .int (iI ((fr : Int))), .int (iI ((to : Int)))])), (dw, .inl (cI, 465, .inl f))]) (eX_X t5 ad) hE hK hP hD hS hA [0, 1] rfl (by decide) U hU hW⟩ rfl rfl hl.1 rfl (lv_room (Nat.le_of_ble_eq_true rfl)) d_De_isBelow_14 ⟨Nat.le_of_ble_eq_true rfl, Nat.le_of_ble_eq_true rfl⟩) hP hD hS hA [0, 1] [] rfl rfl (by decide) (by decide) (fun r u H locs hp hP hD hS => ?_)
      obtain ⟨rfl, rfl⟩ := hp
      have hP : va_P D ecl [(dc, .inr (2, [.ref dw, .int (iI ((fr : Int))), .int (iI ((to : Int)))])), (dw, .inl (cI, 465, .inl f))] H := hP
      have hD : va_D A [(dc, .inr (2, [.ref dw, .int (iI ((fr : Int))), .int (iI ((to : Int)))])), (dw, .inl (cI, 465, .inl f))] := hD
      refine ed_tz (y := (e9 : Int)) (by rw [he9]) ?_
      refine ed_pc (pc' := 17) rfl ?_
      refine ed_if_eq (tgt := 22) hx hb d_De_isBelow_17 rfl (by omega) (fun h_2 => ?_) (fun h_2 => ?_)
      · skip
        refine ed_pc (pc' := 22) rfl ?_
        refine lv_iinc (k := 1) (v := iI (zq + (-1))) hx hb d_De_isBelow_22 hl rfl (iI_add _ _) (by decide) rfl (fun ls hl => ?_)
        have hl : lv_has ls 3 [(2, .int (iI (zq + (-1)))), (0, .ref dc)] := hl
        refine lv_goto (tgt := 4) hx hb d_De_isBelow_25 rfl ?_
        have hl := lv_sub hl [1, 0] rfl
        exact ih _ (by omega) (t + 1) _ ls H locs rfl (by omega) (by omega) (by rw [show Pn - (t + 1) = Pn - 1 - t by omega]; exact bz_s (by omega) (by rw [show Pn - 1 - t + 1 = Pn - t by omega]; exact hR) (by omega)) hl hP hD hS
      · skip
        refine ed_pc (pc' := 20) rfl ?_
        refine lv_iconst (v := iI 1) hx hb d_De_isBelow_20 rfl ?_
        exact W.zret (v := (iI (1))) hx hb hr (by decide +kernel) (fun t9 ht9 hW9 => ⟨⟨(iI (1)), [(dc, .inr (2, [.ref dw, .int (iI ((fr : Int))), .int (iI ((to : Int)))])), (dw, .inl (cI, 465, .inl f))], rfl, ⟨⟨1, rfl, Or.inl ⟨rfl, bz_n (a := Pn - 1 - t) (by omega) (by omega)⟩⟩, rfl⟩, by rw [ht9]; exact hP, hD⟩, hS.F ht9⟩) hS.2.2 d_De_isBelow_21
  refine lv_iload_n hx hb d_De_isBelow_0 rfl (lv_at hl 1 rfl) ?_
  refine lv_iconst (v := iI 1) hx hb d_De_isBelow_1 rfl ?_
  refine ed_isub hx hb d_De_isBelow_2 ?_
  refine lv_istore_n hx hb d_De_isBelow_3 rfl hl (by decide) rfl (fun ls hl => ?_)
  have hl : lv_has ls 3 [(2, .int (iI ((pz) - (1)))), (0, .ref dc), (1, .int (iI (pz)))] := hl
  have hl := lv_sub hl [1, 0] rfl
  exact L4 _ (0) _ ls s.heap [] rfl (by omega) (by omega) (Nat.mod_lt _ (p10_pos _)) hl hP hD hS
