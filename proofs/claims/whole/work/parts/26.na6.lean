set_option maxHeartbeats 4000000 in
set_option maxRecDepth 100000 in
/-- copyDigits(row) -/
theorem c_Na_copyDigits (l : Launch) (D : va_G) (cB cI cJ : ClassId) (t5 : Nat) (ad : Nat → Nat) (q pa pr : Nat) (f g : Nat → Int32) (sz V : Nat) (hV : nt_ok f sz V) : c_I l m_Na_copyDigits (Cond.code m_Na_copyDigits b_Na_copyDigits 6 (some .boolean) :: gw) (rm_ 2 46) (eX t5 ad) D ecl (tyS cB cI cJ) [.ref q, .ref pr] [(q, .inr (0, [.ref pa, .int (iI ((sz : Int)))])), (pa, .inl (cI, 306, .inl f)), (pr, .inl (cB, 1200, .inl g))] (fun r u => r = iI (hdb V ((dl V : Int) - 1200)) ∧ ∃ (g' : Nat → Int32), u = [(q, .inr (0, [.ref pa, .int (iI ((sz : Int)))])), (pa, .inl (cI, 306, .inl f)), (pr, .inl (cB, 1200, .inl g'))] ∧ cp_ok g' V) 0 0 := by
  intro sz0
  refine Met.ofW (cc := b_Na_copyDigits) (maxL := 6) (ret := (some .boolean)) (by decide) rfl ?_
  intro p e s m args below meth c s₁ B hml hv
  obtain ⟨rfl, hsz, hP, hK, hD0, hE⟩ := hv
  have hx := B.exec
  have hb := B.bytes
  have hr := B.returns
  have hts := atoms_spec (ws := Cond.code m_Na_copyDigits b_Na_copyDigits 6 (some .boolean) :: gw) B.pre
  have hown : s.vm.findClass R_Na = some m.cls := findClass_of_methodNamed B.named
  have hlocks := B.notSynchronized
  subst hsz
  have hD := hD0.self (sz := s.heap.size)
  generalize hAe : va_A [(q, .inr (0, [.ref pa, .int (iI ((sz : Int)))])), (pa, .inl (cI, 306, .inl f)), (pr, .inl (cB, 1200, .inl g))] s.heap.size = A at hD hE ⊢
  have hA : ∀ q : Nat, s.heap.size ≤ q → A q := fun q h => by rw [← hAe]; exact Or.inr h
  have hS : va_S A s.heap s.heap [] := va_S.rf
  have hl := lv_entry ([.ref q, .ref pr]) (n := 6) (Nat.le_of_ble_eq_true rfl)
  rw [lg_entry_eq]
  generalize (lg_sl ([.ref q, .ref pr]) ++ List.replicate (6 - (lg_sl ([.ref q, .ref pr])).length) Slot.unset).toArray = ls at hl ⊢
  have hl : lv_has ls 6 [(0, .ref q), (1, .ref pr)] := hl
  have hdl : dl V ≤ 2754 := by
    have hV2 := hV.2.1
    rw [pB_10] at hV2
    exact dl_bound (Nat.lt_of_lt_of_le hV2 (p10_le (by have := hV.1; omega)))
  have L10 : ∀ (n9 : Nat) (i : Nat) (x : Nat) (h : Nat → Int32) (zi : Int) (zx : Int) (ls : Array Slot) (H : Heap) (locs : List Loc), dl V - i = n9 → (zi = (i : Int)) → (zx = (x : Int)) → (x < 1000000000) → ((¬ i % 9 = 0 → x = rd V (i - 1))) → (i ≤ dl V) → ((∀ j, dl V - i ≤ j → j < dl V → j < 1200 → h j = iI ((V / 10 ^ (dl V - 1 - j) % 10 : Nat) : Int))) → lv_has ls 6 [(0, .ref q), (1, .ref pr), (2, .int (iI (((dl V : Nat) : Int)))), (3, .int (iI (zx))), (4, .int (iI (zi)))] → va_P D ecl [(pr, .inl (cB, 1200, .inl h)), (q, .inr (0, [.ref pa, .int (iI ((sz : Int)))])), (pa, .inl (cI, 306, .inl f))] H → va_D A [(pr, .inl (cB, 1200, .inl h)), (q, .inr (0, [.ref pa, .int (iI ((sz : Int)))])), (pa, .inl (cI, 306, .inl f))] → va_S A s.heap H locs → W p l e (headSpec (Cond.code m_Na_copyDigits b_Na_copyDigits 6 (some .boolean) :: gw) (rm_ 2 46)).room s m ([.ref q, .ref pr] : List Value).toArray below meth c H locs 0 0 (MQ below (va_Qi (fun r u => r = iI (hdb V ((dl V : Int) - 1200)) ∧ ∃ (g' : Nat → Int32), u = [(q, .inr (0, [.ref pa, .int (iI ((sz : Int)))])), (pa, .inl (cI, 306, .inl f)), (pr, .inl (cB, 1200, .inl g'))] ∧ cp_ok g' V) (c_B D ecl A) A) ([.ref q, .ref pr] : List Value).toArray s 0 0 A) (F0 m 10 ls []) := by
    intro n9
    induction n9 using Nat.strongRecOn with
    | ind n9 ih =>
    intro i x h zi zx ls H locs hn9 hi hzx hx9 hxr hil hh hl hP hD hS
    refine lv_iload hx hb d_Na_copyDigits_10 (lv_at hl 4 rfl) ?_
    refine lv_iload_n hx hb d_Na_copyDigits_12 rfl (lv_at hl 2 rfl) ?_
    refine ed_icmp_ge (tgt := 72) hx hb d_Na_copyDigits_13 rfl (by omega) (by omega) (fun h_1 => ?_) (fun h_1 => ?_)
    · skip
      refine ed_pc (pc' := 72) rfl ?_
      refine lv_aload_n hx hb d_Na_copyDigits_72 rfl (lv_at hl 0 rfl) ?_
      refine lv_iload_n hx hb d_Na_copyDigits_73 rfl (lv_at hl 2 rfl) ?_
      refine lv_aload_n hx hb d_Na_copyDigits_74 rfl (lv_at hl 1 rfl) ?_
      refine va_alen (v := iI 1200) hx hb hK hP 0 0 rfl rfl rfl d_Na_copyDigits_75 ?_
      refine ed_pc (pc' := 76) rfl ?_
      refine ed_isub hx hb d_Na_copyDigits_76 ?_
      refine c_fi (wc := [(q, .inr (0, [.ref pa, .int (iI ((sz : Int)))])), (pa, .inl (cI, 306, .inl f))]) (wr := [(pr, .inl (cB, 1200, .inl h))]) (va_runV (C := "ExactDigits$Natural") (As := [.int (iI ((((dl V : Nat) : Int)) - (1200)))]) (rest := []) ⟨hx, hb, hml, hown, hts⟩ (c_Na_hasDigitBelow l D cB cI cJ t5 ad q pa f sz V (((dl V : Nat) : Int) - 1200) (by omega) hV H.size) (cwV 1 hts (gV tw_79 tw_80 tw_81 tw_2 tw_82) rfl rfl rfl (by decide +kernel) ⟨Nat.le_of_ble_eq_true rfl, Nat.le_of_ble_eq_true rfl⟩) ⟨c_blind (eX_X t5 ad), va_recv (ci := 0) (q0 := 1) hK hP rfl rfl, fun U hU hW => c_pre (wc := [(q, .inr (0, [.ref pa, .int (iI ((sz : Int)))])), (pa, .inl (cI, 306, .inl f))]) (eX_X t5 ad) hE hK hP hD hS hA [1, 2] rfl (by decide) U hU hW⟩ rfl rfl hl.1 rfl (lv_room (Nat.le_of_ble_eq_true rfl)) d_Na_copyDigits_77 ⟨Nat.le_of_ble_eq_true rfl, Nat.le_of_ble_eq_true rfl⟩) hP hD hS hA [1, 2] [0] rfl rfl (by decide) (by decide) (fun r u H locs hp hP hD hS => ?_)
      obtain ⟨rfl, rfl⟩ := hp
      have hP : va_P D ecl [(pr, .inl (cB, 1200, .inl h)), (q, .inr (0, [.ref pa, .int (iI ((sz : Int)))])), (pa, .inl (cI, 306, .inl f))] H := hP
      have hD : va_D A [(pr, .inl (cB, 1200, .inl h)), (q, .inr (0, [.ref pa, .int (iI ((sz : Int)))])), (pa, .inl (cI, 306, .inl f))] := hD
      have hP := hP.sub (ws' := [(q, .inr (0, [.ref pa, .int (iI ((sz : Int)))])), (pa, .inl (cI, 306, .inl f)), (pr, .inl (cB, 1200, .inl h))]) [1, 2, 0] rfl
      have hD := hD.sub (ws' := [(q, .inr (0, [.ref pa, .int (iI ((sz : Int)))])), (pa, .inl (cI, 306, .inl f)), (pr, .inl (cB, 1200, .inl h))]) [1, 2, 0] (by decide) rfl
      exact W.zret (v := (iI (hdb V (((dl V : Nat) : Int) - 1200)))) hx hb hr (hdb_nar _ _) (fun t9 ht9 hW9 => ⟨⟨(iI (hdb V (((dl V : Nat) : Int) - 1200))), [(q, .inr (0, [.ref pa, .int (iI ((sz : Int)))])), (pa, .inl (cI, 306, .inl f)), (pr, .inl (cB, 1200, .inl h))], rfl, ⟨rfl, h, rfl, fun j h1 h2 => hh j (by omega) h1 h2⟩, by rw [ht9]; exact hP, hD⟩, hS.F ht9⟩) hS.2.2 d_Na_copyDigits_80
    · skip
      refine ed_pc (pc' := 16) rfl ?_
      refine lv_iload hx hb d_Na_copyDigits_16 (lv_at hl 4 rfl) ?_
      refine lv_bipush (v := iI 9) hx hb d_Na_copyDigits_18 (by decide +kernel) ?_
      refine ed_irem hx hb d_Na_copyDigits_20 (by omega) (by omega) (by omega) ?_
      refine ed_if_ne (tgt := 37) hx hb d_Na_copyDigits_21 rfl (by omega) (fun h_2 => ?_) (fun h_2 => ?_)
      · skip
        refine ed_pc (pc' := 37) rfl ?_
        refine ed_pc (pc' := 37) rfl ?_
        refine lv_iload_n hx hb d_Na_copyDigits_37 rfl (lv_at hl 3 rfl) ?_
        refine lv_bipush (v := iI 10) hx hb d_Na_copyDigits_38 (by decide +kernel) ?_
        refine ed_idiv hx hb d_Na_copyDigits_40 (by omega) (by omega) (by omega) ?_
        refine ed_tz (y := ((rd V i : Nat) : Int)) (by rw [rd_s (by omega), ← hxr (by omega)]; omega) ?_
        have hrl := rd_lt V i
        refine lv_istore_n hx hb d_Na_copyDigits_41 rfl hl (by decide) rfl (fun ls hl => ?_)
        have hl : lv_has ls 6 [(3, .int (iI (((rd V i : Nat) : Int)))), (0, .ref q), (1, .ref pr), (2, .int (iI (((dl V : Nat) : Int)))), (4, .int (iI (zi)))] := hl
        refine lv_iload_n hx hb d_Na_copyDigits_42 rfl (lv_at hl 3 rfl) ?_
        refine lv_iconst (v := iI 1) hx hb d_Na_copyDigits_43 rfl ?_
        refine ed_isub hx hb d_Na_copyDigits_44 ?_
        refine lv_iload hx hb d_Na_copyDigits_45 (lv_at hl 4 rfl) ?_
        refine ed_pc (pc' := 47) rfl ?_
        refine ed_isub hx hb d_Na_copyDigits_47 ?_
        refine lv_istore hx hb d_Na_copyDigits_48 hl (by decide) rfl (fun ls hl => ?_)
        have hl : lv_has ls 6 [(5, .int (iI (((((dl V : Nat) : Int)) - (1)) - (zi)))), (3, .int (iI (((rd V i : Nat) : Int)))), (0, .ref q), (1, .ref pr), (2, .int (iI (((dl V : Nat) : Int)))), (4, .int (iI (zi)))] := hl
        refine lv_iload hx hb d_Na_copyDigits_50 (lv_at hl 0 rfl) ?_
        refine lv_aload_n hx hb d_Na_copyDigits_52 rfl (lv_at hl 3 rfl) ?_
        refine va_alen (v := iI 1200) hx hb hK hP 0 0 rfl rfl rfl d_Na_copyDigits_53 ?_
        refine ed_icmp_ge (tgt := 66) hx hb d_Na_copyDigits_54 rfl (by omega) (by omega) (fun h_3 => ?_) (fun h_3 => ?_)
        · skip
          refine ed_pc (pc' := 66) rfl ?_
          refine lv_iinc (k := 5) (v := iI (zi + 1)) hx hb d_Na_copyDigits_66 hl rfl (iI_add _ _) (by decide) rfl (fun ls hl => ?_)
          have hl : lv_has ls 6 [(4, .int (iI (zi + 1))), (5, .int (iI (((((dl V : Nat) : Int)) - (1)) - (zi)))), (3, .int (iI (((rd V i : Nat) : Int)))), (0, .ref q), (1, .ref pr), (2, .int (iI (((dl V : Nat) : Int))))] := hl
          refine lv_goto (tgt := 10) hx hb d_Na_copyDigits_69 rfl ?_
          have hl := lv_sub hl [3, 4, 5, 2, 0] rfl
          exact ih _ (by omega) (i + 1) (rd V i) (h) _ _ ls H locs rfl (by omega) (rfl) (rd_lt V i) (fun _ => by rw [Nat.add_sub_cancel]) (by omega) (cp_n hh (by omega)) hl hP hD hS
        · skip
          refine ed_pc (pc' := 57) rfl ?_
          refine lv_aload_n hx hb d_Na_copyDigits_57 rfl (lv_at hl 3 rfl) ?_
          refine lv_iload hx hb d_Na_copyDigits_58 (lv_at hl 0 rfl) ?_
          refine ed_pc (pc' := 60) rfl ?_
          refine lv_iload_n hx hb d_Na_copyDigits_60 rfl (lv_at hl 1 rfl) ?_
          refine lv_bipush (v := iI 10) hx hb d_Na_copyDigits_61 (by decide +kernel) ?_
          refine ed_irem hx hb d_Na_copyDigits_63 (by omega) (by omega) (by omega) ?_
          refine ed_i2b hx hb d_Na_copyDigits_64 (by omega) ?_
          refine ed_bast hx hb hK hP hD hS 0 0 rfl rfl (dl V - 1 - i) (by omega) (by omega) (by decide) (by omega) d_Na_copyDigits_65 (fun H locs hP hD hS => ?_)
          have hP : va_P D ecl [(pr, .inl (cB, 1200, .inl (upd h (dl V - 1 - i) ((iI ((((rd V i : Nat) : Int)) % (10))))))), (q, .inr (0, [.ref pa, .int (iI ((sz : Int)))])), (pa, .inl (cI, 306, .inl f))] H := hP
          have hD : va_D A [(pr, .inl (cB, 1200, .inl (upd h (dl V - 1 - i) ((iI ((((rd V i : Nat) : Int)) % (10))))))), (q, .inr (0, [.ref pa, .int (iI ((sz : Int)))])), (pa, .inl (cI, 306, .inl f))] := hD
          refine lv_iinc (k := 5) (v := iI (zi + 1)) hx hb d_Na_copyDigits_66 hl rfl (iI_add _ _) (by decide) rfl (fun ls hl => ?_)
          have hl : lv_has ls 6 [(4, .int (iI (zi + 1))), (5, .int (iI (((((dl V : Nat) : Int)) - (1)) - (zi)))), (3, .int (iI (((rd V i : Nat) : Int)))), (0, .ref q), (1, .ref pr), (2, .int (iI (((dl V : Nat) : Int))))] := hl
          refine lv_goto (tgt := 10) hx hb d_Na_copyDigits_69 rfl ?_
          have hl := lv_sub hl [3, 4, 5, 2, 0] rfl
          exact ih _ (by omega) (i + 1) (rd V i) (_) _ _ ls H locs rfl (by omega) (rfl) (rd_lt V i) (fun _ => by rw [Nat.add_sub_cancel]) (by omega) (cp_s hh (by omega) (by rw [← rd_d]; rfl)) hl hP hD hS
      · skip
        refine ed_pc (pc' := 24) rfl ?_
        refine ed_pc (pc' := 24) rfl ?_
        refine lv_aload_n hx hb d_Na_copyDigits_24 rfl (lv_at hl 0 rfl) ?_
        refine va_get (D := D) (ci := 0) (v := .ref pa) (C := R_Na) (T := T_Na) (N := 2) hx hb hts (fun w h => List.mem_cons_of_mem _ (in_Na w h)) hown hK hP 1 rfl rfl 0 (by decide) (hts _ (List.mem_cons_of_mem _ tw_31)) (fun _ h9 => h9) rfl d_Na_copyDigits_25 ?_
        refine lv_iload hx hb d_Na_copyDigits_28 (lv_at hl 4 rfl) ?_
        refine lv_bipush (v := iI 9) hx hb d_Na_copyDigits_30 (by decide +kernel) ?_
        refine ed_idiv hx hb d_Na_copyDigits_32 (by omega) (by omega) (by omega) ?_
        have hpi := nt_pl hV (show i < dl V by omega)
        have hs306 := hV.1
        refine ed_iald (y := ((rd V i : Nat) : Int)) hx hb hK hP 2 1 rfl rfl (i / 9) (by omega) (by omega) (by decide) (by rw [rd_0 (by omega)]; exact hV.2.2.2 (i / 9) (nt_pl hV (by omega))) d_Na_copyDigits_33 ?_
        refine lv_goto (tgt := 41) hx hb d_Na_copyDigits_34 rfl ?_
        have hrl := rd_lt V i
        refine lv_istore_n hx hb d_Na_copyDigits_41 rfl hl (by decide) rfl (fun ls hl => ?_)
        have hl : lv_has ls 6 [(3, .int (iI (((rd V i : Nat) : Int)))), (0, .ref q), (1, .ref pr), (2, .int (iI (((dl V : Nat) : Int)))), (4, .int (iI (zi)))] := hl
        refine ed_pc (pc' := 42) rfl ?_
        refine lv_iload_n hx hb d_Na_copyDigits_42 rfl (lv_at hl 3 rfl) ?_
        refine lv_iconst (v := iI 1) hx hb d_Na_copyDigits_43 rfl ?_
        refine ed_isub hx hb d_Na_copyDigits_44 ?_
        refine lv_iload hx hb d_Na_copyDigits_45 (lv_at hl 4 rfl) ?_
        refine ed_isub hx hb d_Na_copyDigits_47 ?_
        refine lv_istore hx hb d_Na_copyDigits_48 hl (by decide) rfl (fun ls hl => ?_)
        have hl : lv_has ls 6 [(5, .int (iI (((((dl V : Nat) : Int)) - (1)) - (zi)))), (3, .int (iI (((rd V i : Nat) : Int)))), (0, .ref q), (1, .ref pr), (2, .int (iI (((dl V : Nat) : Int)))), (4, .int (iI (zi)))] := hl
        refine lv_iload hx hb d_Na_copyDigits_50 (lv_at hl 0 rfl) ?_
        refine lv_aload_n hx hb d_Na_copyDigits_52 rfl (lv_at hl 3 rfl) ?_
        refine ed_pc (pc' := 53) rfl ?_
        refine va_alen (v := iI 1200) hx hb hK hP 0 0 rfl rfl rfl d_Na_copyDigits_53 ?_
        refine ed_icmp_ge (tgt := 66) hx hb d_Na_copyDigits_54 rfl (by omega) (by omega) (fun h_4 => ?_) (fun h_4 => ?_)
        · skip
          refine ed_pc (pc' := 66) rfl ?_
          refine lv_iinc (k := 5) (v := iI (zi + 1)) hx hb d_Na_copyDigits_66 hl rfl (iI_add _ _) (by decide) rfl (fun ls hl => ?_)
          have hl : lv_has ls 6 [(4, .int (iI (zi + 1))), (5, .int (iI (((((dl V : Nat) : Int)) - (1)) - (zi)))), (3, .int (iI (((rd V i : Nat) : Int)))), (0, .ref q), (1, .ref pr), (2, .int (iI (((dl V : Nat) : Int))))] := hl
          refine lv_goto (tgt := 10) hx hb d_Na_copyDigits_69 rfl ?_
          have hl := lv_sub hl [3, 4, 5, 2, 0] rfl
          exact ih _ (by omega) (i + 1) (rd V i) (h) _ _ ls H locs rfl (by omega) (rfl) (rd_lt V i) (fun _ => by rw [Nat.add_sub_cancel]) (by omega) (cp_n hh (by omega)) hl hP hD hS
        · skip
          refine ed_pc (pc' := 57) rfl ?_
          refine lv_aload_n hx hb d_Na_copyDigits_57 rfl (lv_at hl 3 rfl) ?_
          refine lv_iload hx hb d_Na_copyDigits_58 (lv_at hl 0 rfl) ?_
          refine lv_iload_n hx hb d_Na_copyDigits_60 rfl (lv_at hl 1 rfl) ?_
          refine lv_bipush (v := iI 10) hx hb d_Na_copyDigits_61 (by decide +kernel) ?_
          refine ed_irem hx hb d_Na_copyDigits_63 (by omega) (by omega) (by omega) ?_
          refine ed_i2b hx hb d_Na_copyDigits_64 (by omega) ?_
          refine ed_pc (pc' := 65) rfl ?_
          refine ed_bast hx hb hK hP hD hS 0 0 rfl rfl (dl V - 1 - i) (by omega) (by omega) (by decide) (by omega) d_Na_copyDigits_65 (fun H locs hP hD hS => ?_)
          have hP : va_P D ecl [(pr, .inl (cB, 1200, .inl (upd h (dl V - 1 - i) ((iI ((((rd V i : Nat) : Int)) % (10))))))), (q, .inr (0, [.ref pa, .int (iI ((sz : Int)))])), (pa, .inl (cI, 306, .inl f))] H := hP
          have hD : va_D A [(pr, .inl (cB, 1200, .inl (upd h (dl V - 1 - i) ((iI ((((rd V i : Nat) : Int)) % (10))))))), (q, .inr (0, [.ref pa, .int (iI ((sz : Int)))])), (pa, .inl (cI, 306, .inl f))] := hD
          refine lv_iinc (k := 5) (v := iI (zi + 1)) hx hb d_Na_copyDigits_66 hl rfl (iI_add _ _) (by decide) rfl (fun ls hl => ?_)
          have hl : lv_has ls 6 [(4, .int (iI (zi + 1))), (5, .int (iI (((((dl V : Nat) : Int)) - (1)) - (zi)))), (3, .int (iI (((rd V i : Nat) : Int)))), (0, .ref q), (1, .ref pr), (2, .int (iI (((dl V : Nat) : Int))))] := hl
          refine lv_goto (tgt := 10) hx hb d_Na_copyDigits_69 rfl ?_
          have hl := lv_sub hl [3, 4, 5, 2, 0] rfl
          exact ih _ (by omega) (i + 1) (rd V i) (_) _ _ ls H locs rfl (by omega) (rfl) (rd_lt V i) (fun _ => by rw [Nat.add_sub_cancel]) (by omega) (cp_s hh (by omega) (by rw [← rd_d]; rfl)) hl hP hD hS
  refine lv_aload_n hx hb d_Na_copyDigits_0 rfl (lv_at hl 0 rfl) ?_
  refine c_fi (wc := [(q, .inr (0, [.ref pa, .int (iI ((sz : Int)))])), (pa, .inl (cI, 306, .inl f))]) (wr := [(pr, .inl (cB, 1200, .inl g))]) (va_runV (C := "ExactDigits$Natural") (As := []) (rest := []) ⟨hx, hb, hml, hown, hts⟩ (c_Na_length l D cB cI cJ t5 ad q pa f sz V hV s.heap.size) (cwV 0 hts (gV tw_78 tw_71 tw_72 tw_2 tw_73) rfl rfl rfl (by decide +kernel) ⟨Nat.le_of_ble_eq_true rfl, Nat.le_of_ble_eq_true rfl⟩) ⟨c_blind (eX_X t5 ad), va_recv (ci := 0) (q0 := 0) hK hP rfl rfl, fun U hU hW => c_pre (wc := [(q, .inr (0, [.ref pa, .int (iI ((sz : Int)))])), (pa, .inl (cI, 306, .inl f))]) (eX_X t5 ad) hE hK hP hD hS hA [0, 1] rfl (by decide) U hU hW⟩ rfl rfl hl.1 rfl (lv_room (Nat.le_of_ble_eq_true rfl)) d_Na_copyDigits_1 ⟨Nat.le_of_ble_eq_true rfl, Nat.le_of_ble_eq_true rfl⟩) hP hD hS hA [0, 1] [2] rfl rfl (by decide) (by decide) (fun r u H locs hp hP hD hS => ?_)
  obtain ⟨rfl, rfl⟩ := hp
  have hP : va_P D ecl [(pr, .inl (cB, 1200, .inl g)), (q, .inr (0, [.ref pa, .int (iI ((sz : Int)))])), (pa, .inl (cI, 306, .inl f))] H := hP
  have hD : va_D A [(pr, .inl (cB, 1200, .inl g)), (q, .inr (0, [.ref pa, .int (iI ((sz : Int)))])), (pa, .inl (cI, 306, .inl f))] := hD
  refine lv_istore_n hx hb d_Na_copyDigits_4 rfl hl (by decide) rfl (fun ls hl => ?_)
  have hl : lv_has ls 6 [(2, .int (iI (((dl V : Nat) : Int)))), (0, .ref q), (1, .ref pr)] := hl
  refine lv_iconst (v := iI 0) hx hb d_Na_copyDigits_5 rfl ?_
  refine lv_istore_n hx hb d_Na_copyDigits_6 rfl hl (by decide) rfl (fun ls hl => ?_)
  have hl : lv_has ls 6 [(3, .int (iI (0))), (2, .int (iI (((dl V : Nat) : Int)))), (0, .ref q), (1, .ref pr)] := hl
  refine lv_iconst (v := iI 0) hx hb d_Na_copyDigits_7 rfl ?_
  refine lv_istore hx hb d_Na_copyDigits_8 hl (by decide) rfl (fun ls hl => ?_)
  have hl : lv_has ls 6 [(4, .int (iI (0))), (3, .int (iI (0))), (2, .int (iI (((dl V : Nat) : Int)))), (0, .ref q), (1, .ref pr)] := hl
  have hl := lv_sub hl [3, 4, 2, 1, 0] rfl
  exact L10 _ (0) (0) (g) _ _ ls H locs rfl (rfl) (rfl) (by omega) (fun z => absurd rfl z) (by omega) (fun j h1 h2 _ => by omega) hl hP hD hS
