set_option maxHeartbeats 4000000 in
set_option maxRecDepth 100000 in
/-- setDigits(row, n) -/
theorem c_Na_setDigits (l : Launch) (D : va_G) (cB cI cJ : ClassId) (t5 : Nat) (ad : Nat → Nat) (q pa pr : Nat) (f g : Nat → Int32) (z0 : Int) (n X : Nat) (hn : n ≤ 1200) (hX1 : X < 10 ^ n) (hX2 : 0 < n → 10 ^ (n - 1) ≤ X) (hg : dg_ok g n X) : c_V l m_Na_setDigits (Cond.code m_Na_setDigits b_Na_setDigits 6 none :: gw) (rm_ 0 0) (eX t5 ad) D ecl (tyS cB cI cJ) [.ref q, .ref pr, .int (iI ((n : Int)))] [(q, .inr (0, [.ref pa, .int (iI (z0))])), (pa, .inl (cI, 306, .inl f)), (pr, .inl (cB, 1200, .inl g))] (fun u => ∃ (f' : Nat → Int32) (sz' : Nat), u = [(q, .inr (0, [.ref pa, .int (iI ((sz' : Int)))])), (pa, .inl (cI, 306, .inl f')), (pr, .inl (cB, 1200, .inl g))] ∧ nt_ok f' sz' X) 0 0 := by
  intro sz0
  refine Met.ofW (cc := b_Na_setDigits) (maxL := 6) (ret := none) (by decide) rfl ?_
  intro p e s m args below meth c s₁ B hml hv
  obtain ⟨rfl, hsz, hP, hK, hD0, hE⟩ := hv
  have hx := B.exec
  have hb := B.bytes
  have hr := B.returns
  have hts := atoms_spec (ws := Cond.code m_Na_setDigits b_Na_setDigits 6 none :: gw) B.pre
  have hown : s.vm.findClass R_Na = some m.cls := findClass_of_methodNamed B.named
  have hlocks := B.notSynchronized
  subst hsz
  have hD := hD0.self (sz := s.heap.size)
  generalize hAe : va_A [(q, .inr (0, [.ref pa, .int (iI (z0))])), (pa, .inl (cI, 306, .inl f)), (pr, .inl (cB, 1200, .inl g))] s.heap.size = A at hD hE ⊢
  have hA : ∀ q : Nat, s.heap.size ≤ q → A q := fun q h => by rw [← hAe]; exact Or.inr h
  have hS : va_S A s.heap s.heap [] := va_S.rf
  have hl := lv_entry ([.ref q, .ref pr, .int (iI ((n : Int)))]) (n := 6) (Nat.le_of_ble_eq_true rfl)
  rw [lg_entry_eq]
  generalize (lg_sl ([.ref q, .ref pr, .int (iI ((n : Int)))]) ++ List.replicate (6 - (lg_sl ([.ref q, .ref pr, .int (iI ((n : Int)))])).length) Slot.unset).toArray = ls at hl ⊢
  have hl : lv_has ls 6 [(0, .ref q), (1, .ref pr), (2, .int (iI ((n : Int))))] := hl
  have L18 : ∀ (n9 : Nat) (i : Nat) (h : Nat → Int32) (pn : Nat) (zi : Int) (zp : Int) (zs : Int) (ls : Array Slot) (H : Heap) (locs : List Loc), n - i = n9 → (zi = (i : Int)) → (zp = (pn : Int)) → (zs = (((n + 8) / 9 : Nat) : Int)) → (i ≤ n) → ((i < n → pn = X / 10 ^ (n - i) % 10 ^ (8 - (n - 1 - i) % 9))) → (pn < 1000000000) → ((∀ j, n - i ≤ 9 * j → j < (n + 8) / 9 → h j = iI ((X / 1000000000 ^ j % 1000000000 : Nat) : Int))) → lv_has ls 6 [(0, .ref q), (1, .ref pr), (2, .int (iI ((n : Int)))), (3, .int (iI (zp))), (4, .int (iI (zi)))] → va_P D ecl [(q, .inr (0, [.ref pa, .int (iI (zs))])), (pa, .inl (cI, 306, .inl h)), (pr, .inl (cB, 1200, .inl g))] H → va_D A [(q, .inr (0, [.ref pa, .int (iI (zs))])), (pa, .inl (cI, 306, .inl h)), (pr, .inl (cB, 1200, .inl g))] → va_S A s.heap H locs → W p l e (headSpec (Cond.code m_Na_setDigits b_Na_setDigits 6 none :: gw) (rm_ 0 0)).room s m ([.ref q, .ref pr, .int (iI ((n : Int)))] : List Value).toArray below meth c H locs 0 0 (MQ below (va_Qv (fun u => ∃ (f' : Nat → Int32) (sz' : Nat), u = [(q, .inr (0, [.ref pa, .int (iI ((sz' : Int)))])), (pa, .inl (cI, 306, .inl f')), (pr, .inl (cB, 1200, .inl g))] ∧ nt_ok f' sz' X) (c_B D ecl A) A) ([.ref q, .ref pr, .int (iI ((n : Int)))] : List Value).toArray s 0 0 A) (F0 m 18 ls []) := by
    intro n9
    induction n9 using Nat.strongRecOn with
    | ind n9 ih =>
    intro i h pn zi zp zs ls H locs hn9 hi hp hzs hin hpn hpb hpa hl hP hD hS
    refine lv_iload hx hb d_Na_setDigits_18 (lv_at hl 4 rfl) ?_
    refine lv_iload_n hx hb d_Na_setDigits_20 rfl (lv_at hl 2 rfl) ?_
    refine ed_icmp_ge (tgt := 69) hx hb d_Na_setDigits_21 rfl (by omega) (by omega) (fun h_1 => ?_) (fun h_1 => ?_)
    · skip
      refine ed_pc (pc' := 69) rfl ?_
      have hin2 : i = n := by omega
      exact W.vret hx hb hr (fun t9 ht9 hW9 => ⟨⟨[(q, .inr (0, [.ref pa, .int (iI (zs))])), (pa, .inl (cI, 306, .inl h)), (pr, .inl (cB, 1200, .inl g))], rfl, ⟨h, (n + 8) / 9, by rw [hzs], sd_g hn hX1 hX2 (fun j hj => hpa j (by omega) hj)⟩, by rw [ht9]; exact hP, hD⟩, hS.F ht9⟩) hS.2.2 d_Na_setDigits_69
    · skip
      refine ed_pc (pc' := 24) rfl ?_
      obtain ⟨dd, hdd⟩ : ∃ dd : Nat, dd = X / 10 ^ (n - 1 - i) % 10 := ⟨_, rfl⟩
      have hd9 : dd < 10 := by rw [hdd]; exact dg_lt _ _
      obtain ⟨p2, hp20⟩ : ∃ p2 : Nat, p2 = pn * 10 + dd := ⟨_, rfl⟩
      have hp2 : p2 = X / 10 ^ (n - 1 - i) % 10 ^ (9 - (n - 1 - i) % 9) := by rw [hp20, hpn (by omega), hdd]; exact sd_e (by omega)
      have hp2b : p2 < 1000000000 := by rw [hp2]; exact sd_f _ _
      refine lv_iload_n hx hb d_Na_setDigits_24 rfl (lv_at hl 2 rfl) ?_
      refine lv_iconst (v := iI 1) hx hb d_Na_setDigits_25 rfl ?_
      refine ed_isub hx hb d_Na_setDigits_26 ?_
      refine lv_iload hx hb d_Na_setDigits_27 (lv_at hl 4 rfl) ?_
      refine ed_pc (pc' := 29) rfl ?_
      refine ed_isub hx hb d_Na_setDigits_29 ?_
      refine ed_tz (y := ((n - 1 - i : Nat) : Int)) (by omega) ?_
      refine lv_istore hx hb d_Na_setDigits_30 hl (by decide) rfl (fun ls hl => ?_)
      have hl : lv_has ls 6 [(5, .int (iI (((n - 1 - i : Nat) : Int)))), (0, .ref q), (1, .ref pr), (2, .int (iI ((n : Int)))), (3, .int (iI (zp))), (4, .int (iI (zi)))] := hl
      refine lv_iload_n hx hb d_Na_setDigits_32 rfl (lv_at hl 4 rfl) ?_
      refine lv_bipush (v := iI 10) hx hb d_Na_setDigits_33 (by decide +kernel) ?_
      refine ed_imul hx hb d_Na_setDigits_35 ?_
      refine lv_aload_n hx hb d_Na_setDigits_36 rfl (lv_at hl 2 rfl) ?_
      refine lv_iload hx hb d_Na_setDigits_37 (lv_at hl 5 rfl) ?_
      refine ed_bald (y := (dd : Int)) hx hb hK hP 2 0 rfl rfl (i) (by omega) (by omega) (by decide) (by rw [hdd]; exact hg i (by omega)) d_Na_setDigits_39 ?_
      refine ed_pc (pc' := 40) rfl ?_
      refine ed_iadd hx hb d_Na_setDigits_40 ?_
      refine ed_tz (y := (p2 : Int)) (by rw [hp20, hp]; omega) ?_
      refine lv_istore_n hx hb d_Na_setDigits_41 rfl hl (by decide) rfl (fun ls hl => ?_)
      have hl : lv_has ls 6 [(3, .int (iI ((p2 : Int)))), (5, .int (iI (((n - 1 - i : Nat) : Int)))), (0, .ref q), (1, .ref pr), (2, .int (iI ((n : Int)))), (4, .int (iI (zi)))] := hl
      refine lv_iload hx hb d_Na_setDigits_42 (lv_at hl 1 rfl) ?_
      refine lv_bipush (v := iI 9) hx hb d_Na_setDigits_44 (by decide +kernel) ?_
      refine ed_irem hx hb d_Na_setDigits_46 (by omega) (by omega) (by omega) ?_
      refine ed_if_ne (tgt := 63) hx hb d_Na_setDigits_47 rfl (by omega) (fun h_2 => ?_) (fun h_2 => ?_)
      · skip
        refine ed_pc (pc' := 63) rfl ?_
        have h9 : ¬ (n - 1 - i) % 9 = 0 := by omega
        refine lv_iinc (k := 5) (v := iI (zi + 1)) hx hb d_Na_setDigits_63 hl rfl (iI_add _ _) (by decide) rfl (fun ls hl => ?_)
        have hl : lv_has ls 6 [(4, .int (iI (zi + 1))), (3, .int (iI ((p2 : Int)))), (5, .int (iI (((n - 1 - i : Nat) : Int)))), (0, .ref q), (1, .ref pr), (2, .int (iI ((n : Int))))] := hl
        refine lv_goto (tgt := 18) hx hb d_Na_setDigits_66 rfl ?_
        have hl := lv_sub hl [3, 4, 5, 1, 0] rfl
        exact ih _ (by omega) (i + 1) (h) (p2) _ _ _ ls H locs rfl (by omega) (rfl) (hzs) (by omega) (fun z => by rw [hp2]; exact sd_c (by omega) h9) (by omega) (sd_d hpa (by omega) h9) hl hP hD hS
      · skip
        refine ed_pc (pc' := 50) rfl ?_
        have h9 : (n - 1 - i) % 9 = 0 := by omega
        refine lv_aload_n hx hb d_Na_setDigits_50 rfl (lv_at hl 2 rfl) ?_
        refine va_get (D := D) (ci := 0) (v := .ref pa) (C := R_Na) (T := T_Na) (N := 2) hx hb hts (fun w h => List.mem_cons_of_mem _ (in_Na w h)) hown hK hP 0 rfl rfl 0 (by decide) (hts _ (List.mem_cons_of_mem _ tw_31)) (fun _ h9 => h9) rfl d_Na_setDigits_51 ?_
        refine ed_pc (pc' := 54) rfl ?_
        refine lv_iload hx hb d_Na_setDigits_54 (lv_at hl 1 rfl) ?_
        refine lv_bipush (v := iI 9) hx hb d_Na_setDigits_56 (by decide +kernel) ?_
        refine ed_idiv hx hb d_Na_setDigits_58 (by omega) (by omega) (by omega) ?_
        refine lv_iload_n hx hb d_Na_setDigits_59 rfl (lv_at hl 0 rfl) ?_
        refine ed_iast hx hb hK hP hD hS 1 1 rfl rfl ((n - 1 - i) / 9) (by omega) (by omega) (by decide) d_Na_setDigits_60 (fun H locs hP hD hS => ?_)
        have hP : va_P D ecl [(q, .inr (0, [.ref pa, .int (iI (zs))])), (pa, .inl (cI, 306, .inl (upd h ((n - 1 - i) / 9) ((iI ((p2 : Int))))))), (pr, .inl (cB, 1200, .inl g))] H := hP
        have hD : va_D A [(q, .inr (0, [.ref pa, .int (iI (zs))])), (pa, .inl (cI, 306, .inl (upd h ((n - 1 - i) / 9) ((iI ((p2 : Int))))))), (pr, .inl (cB, 1200, .inl g))] := hD
        refine lv_iconst (v := iI 0) hx hb d_Na_setDigits_61 rfl ?_
        refine lv_istore_n hx hb d_Na_setDigits_62 rfl hl (by decide) rfl (fun ls hl => ?_)
        have hl : lv_has ls 6 [(3, .int (iI (0))), (5, .int (iI (((n - 1 - i : Nat) : Int)))), (0, .ref q), (1, .ref pr), (2, .int (iI ((n : Int)))), (4, .int (iI (zi)))] := hl
        refine lv_iinc (k := 5) (v := iI (zi + 1)) hx hb d_Na_setDigits_63 hl rfl (iI_add _ _) (by decide) rfl (fun ls hl => ?_)
        have hl : lv_has ls 6 [(4, .int (iI (zi + 1))), (3, .int (iI (0))), (5, .int (iI (((n - 1 - i : Nat) : Int)))), (0, .ref q), (1, .ref pr), (2, .int (iI ((n : Int))))] := hl
        refine ed_pc (pc' := 66) rfl ?_
        refine lv_goto (tgt := 18) hx hb d_Na_setDigits_66 rfl ?_
        have hl := lv_sub hl [3, 4, 5, 1, 0] rfl
        exact ih _ (by omega) (i + 1) (upd h ((n - 1 - i) / 9) (iI (p2 : Int))) (0) _ _ _ ls H locs rfl (by omega) (rfl) (hzs) (by omega) (fun z => sd_a (by omega) (by omega)) (by omega) (sd_b hpa (by omega) h9 (by rw [hp2])) hl hP hD hS
  refine lv_iconst (v := iI 0) hx hb d_Na_setDigits_0 rfl ?_
  refine lv_istore_n hx hb d_Na_setDigits_1 rfl hl (by decide) rfl (fun ls hl => ?_)
  have hl : lv_has ls 6 [(3, .int (iI (0))), (0, .ref q), (1, .ref pr), (2, .int (iI ((n : Int))))] := hl
  refine lv_aload_n hx hb d_Na_setDigits_2 rfl (lv_at hl 1 rfl) ?_
  refine lv_iload_n hx hb d_Na_setDigits_3 rfl (lv_at hl 3 rfl) ?_
  refine lv_bipush (v := iI 9) hx hb d_Na_setDigits_4 (by decide +kernel) ?_
  refine ed_iadd hx hb d_Na_setDigits_6 ?_
  refine lv_iconst (v := iI 1) hx hb d_Na_setDigits_7 rfl ?_
  refine ed_pc (pc' := 8) rfl ?_
  refine ed_isub hx hb d_Na_setDigits_8 ?_
  refine lv_bipush (v := iI 9) hx hb d_Na_setDigits_9 (by decide +kernel) ?_
  refine ed_idiv hx hb d_Na_setDigits_11 (by omega) (by omega) (by omega) ?_
  refine ed_tz (y := (((n + 8) / 9 : Nat) : Int)) (by omega) ?_
  refine va_put (D := D) (ci := 0) (v := .int (iI ((((n + 8) / 9 : Nat) : Int)))) (ty := .int) (C := R_Na) (T := T_Na) (N := 2) hx hb hts (fun w h => List.mem_cons_of_mem _ (in_Na w h)) y_Na t_Na n_Na hown hK hP hD hS 0 rfl rfl 1 (by decide) (hts _ (List.mem_cons_of_mem _ tw_32)) (fun _ h9 => h9) rfl (by decide +kernel) rfl rfl (Nat.le_of_ble_eq_true rfl) d_Na_setDigits_12 (fun H locs hP hD hS => ?_)
  have hP : va_P D ecl [(q, .inr (0, [.ref pa, .int (iI ((((n + 8) / 9 : Nat) : Int)))])), (pa, .inl (cI, 306, .inl f)), (pr, .inl (cB, 1200, .inl g))] H := hP
  have hD : va_D A [(q, .inr (0, [.ref pa, .int (iI ((((n + 8) / 9 : Nat) : Int)))])), (pa, .inl (cI, 306, .inl f)), (pr, .inl (cB, 1200, .inl g))] := hD
  refine lv_iconst (v := iI 0) hx hb d_Na_setDigits_15 rfl ?_
  refine lv_istore hx hb d_Na_setDigits_16 hl (by decide) rfl (fun ls hl => ?_)
  have hl : lv_has ls 6 [(4, .int (iI (0))), (3, .int (iI (0))), (0, .ref q), (1, .ref pr), (2, .int (iI ((n : Int))))] := hl
  have hl := lv_sub hl [2, 3, 4, 1, 0] rfl
  exact L18 _ (0) (f) (0) _ _ _ ls H locs rfl (rfl) (rfl) (by omega) (by omega) (fun z => by rw [Nat.div_eq_of_lt (by rw [Nat.sub_zero]; exact hX1)]; simp) (by omega) (fun j h1 h2 => by omega) hl hP hD hS
