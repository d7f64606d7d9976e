set_option maxHeartbeats 4000000 in
set_option maxRecDepth 100000 in
/-- times(F) -/
theorem c_Na_times (l : Launch) (D : va_G) (cB cI cJ : ClassId) (t5 : Nat) (ad : Nat → Nat) (q pa : Nat) (f : Nat → Int32) (sz V F : Nat) (hV : nt_ok f sz V) (hF : 0 < F ∧ F < 1000000000) (hR : V * F < 1000000000 ^ 306) : c_V l m_Na_times (Cond.code m_Na_times b_Na_times 7 none :: gw) (rm_ 0 0) (eX t5 ad) D ecl (tyS cB cI cJ) [.ref q, .int (iI ((F : Int)))] [(q, .inr (0, [.ref pa, .int (iI ((sz : Int)))])), (pa, .inl (cI, 306, .inl f))] (fun u => ∃ (f' : Nat → Int32) (sz' : Nat), u = [(q, .inr (0, [.ref pa, .int (iI ((sz' : Int)))])), (pa, .inl (cI, 306, .inl f'))] ∧ nt_ok f' sz' (V * F)) 0 0 := by
  intro sz0
  refine Met.ofW (cc := b_Na_times) (maxL := 7) (ret := none) (by decide) rfl ?_
  intro p e s m args below meth c s₁ B hml hv
  obtain ⟨rfl, hsz, hP, hK, hD0, hE⟩ := hv
  have hx := B.exec
  have hb := B.bytes
  have hr := B.returns
  have hts := atoms_spec (ws := Cond.code m_Na_times b_Na_times 7 none :: gw) B.pre
  have hown : s.vm.findClass R_Na = some m.cls := findClass_of_methodNamed B.named
  have hlocks := B.notSynchronized
  subst hsz
  have hD := hD0.self (sz := s.heap.size)
  generalize hAe : va_A [(q, .inr (0, [.ref pa, .int (iI ((sz : Int)))])), (pa, .inl (cI, 306, .inl f))] s.heap.size = A at hD hE ⊢
  have hA : ∀ q : Nat, s.heap.size ≤ q → A q := fun q h => by rw [← hAe]; exact Or.inr h
  have hS : va_S A s.heap s.heap [] := va_S.rf
  have hl := lv_entry ([.ref q, .int (iI ((F : Int)))]) (n := 7) (Nat.le_of_ble_eq_true rfl)
  rw [lg_entry_eq]
  generalize (lg_sl ([.ref q, .int (iI ((F : Int)))]) ++ List.replicate (7 - (lg_sl ([.ref q, .int (iI ((F : Int)))])).length) Slot.unset).toArray = ls at hl ⊢
  have hl : lv_has ls 7 [(0, .ref q), (1, .int (iI ((F : Int))))] := hl
  obtain ⟨hV1, hV2, hV3, hV4⟩ := hV
  have L5 : ∀ (n9 : Nat) (i : Nat) (g : Nat → Int32) (cn : Nat) (zi : Int) (cy : Int) (ls : Array Slot) (H : Heap) (locs : List Loc), sz - i = n9 → (zi = (i : Int)) → (cy = (cn : Int)) → (cn = V % 1000000000 ^ i * F / 1000000000 ^ i) → (i ≤ sz) → ((∀ j, j < i → g j = iI ((V * F / 1000000000 ^ j % 1000000000 : Nat) : Int))) → ((∀ j, i ≤ j → j < sz → g j = iI ((V / 1000000000 ^ j % 1000000000 : Nat) : Int))) → lv_has ls 7 [(0, .ref q), (1, .int (iI ((F : Int)))), (4, .int (iI (zi))), (2, .long (jI (cy)))] → va_P D ecl [(q, .inr (0, [.ref pa, .int (iI ((sz : Int)))])), (pa, .inl (cI, 306, .inl g))] H → va_D A [(q, .inr (0, [.ref pa, .int (iI ((sz : Int)))])), (pa, .inl (cI, 306, .inl g))] → va_S A s.heap H locs → W p l e (headSpec (Cond.code m_Na_times b_Na_times 7 none :: gw) (rm_ 0 0)).room s m ([.ref q, .int (iI ((F : Int)))] : List Value).toArray below meth c H locs 0 0 (MQ below (va_Qv (fun u => ∃ (f' : Nat → Int32) (sz' : Nat), u = [(q, .inr (0, [.ref pa, .int (iI ((sz' : Int)))])), (pa, .inl (cI, 306, .inl f'))] ∧ nt_ok f' sz' (V * F)) (c_B D ecl A) A) ([.ref q, .int (iI ((F : Int)))] : List Value).toArray s 0 0 A) (F0 m 5 ls []) := by
    intro n9
    induction n9 using Nat.strongRecOn with
    | ind n9 ih =>
    intro i g cn zi cy ls H locs hn9 hi hc hcn hle hlo hhi hl hP hD hS
    refine lv_iload hx hb d_Na_times_5 (lv_at hl 2 rfl) ?_
    refine lv_aload_n hx hb d_Na_times_7 rfl (lv_at hl 0 rfl) ?_
    refine va_get (D := D) (ci := 0) (v := .int (iI ((sz : Int)))) (C := R_Na) (T := T_Na) (N := 2) hx hb hts (fun w h => List.mem_cons_of_mem _ (in_Na w h)) hown hK hP 0 rfl rfl 1 (by decide) (hts _ (List.mem_cons_of_mem _ tw_32)) (fun _ h9 => h9) rfl d_Na_times_8 ?_
    refine ed_icmp_ge (tgt := 58) hx hb d_Na_times_11 rfl (by omega) (by omega) (fun h_1 => ?_) (fun h_1 => ?_)
    · skip
      refine ed_pc (pc' := 58) rfl ?_
      have hsz : i = sz := by omega
      have hlo : ∀ j, j < sz → g j = iI ((V * F / 1000000000 ^ j % 1000000000 : Nat) : Int) := fun j hj => hlo j (by omega)
      have hcs : cn < F := by rw [hcn]; exact tm_small (by decide) hF.1
      rw [hsz, tm_last hV2] at hcn
      refine lv_lload_n hx hb d_Na_times_58 rfl (lv_at hl 3 rfl) ?_
      refine lv_lconst (v := jI 0) hx hb d_Na_times_59 (by decide +kernel) ?_
      refine ed_lif_eq (tgt := 97) hx hb d_Na_times_60 d_Na_times_61 rfl (by omega) (by omega) (fun h_2 => ?_) (fun h_2 => ?_)
      · skip
        refine ed_pc (pc' := 97) rfl ?_
        have h0 : V * F / 1000000000 ^ sz = 0 := by
          rcases Nat.lt_or_ge sz 306 with z | z
          · rw [← hcn]; omega
          · have h306 : sz = 306 := by omega
            rw [h306]; exact Nat.div_eq_of_lt hR
        have hlt : V * F < 1000000000 ^ sz := by rcases Nat.div_eq_zero_iff.mp h0 with z | z; exact absurd z (Nat.ne_of_gt (pB_pos sz)); exact z
        exact W.vret hx hb hr (fun t9 ht9 hW9 => ⟨⟨[(q, .inr (0, [.ref pa, .int (iI ((sz : Int)))])), (pa, .inl (cI, 306, .inl g))], rfl, ⟨_, _, rfl, hV1, hlt, fun z => Nat.le_trans (hV3 z) (Nat.le_mul_of_pos_right V hF.1), hlo⟩, by rw [ht9]; exact hP, hD⟩, hS.F ht9⟩) hS.2.2 d_Na_times_97
      · skip
        refine ed_pc (pc' := 64) rfl ?_
        refine ed_pc (pc' := 64) rfl ?_
        refine lv_aload_n hx hb d_Na_times_64 rfl (lv_at hl 0 rfl) ?_
        refine va_get (D := D) (ci := 0) (v := .int (iI ((sz : Int)))) (C := R_Na) (T := T_Na) (N := 2) hx hb hts (fun w h => List.mem_cons_of_mem _ (in_Na w h)) hown hK hP 0 rfl rfl 1 (by decide) (hts _ (List.mem_cons_of_mem _ tw_32)) (fun _ h9 => h9) rfl d_Na_times_65 ?_
        refine lv_aload_n hx hb d_Na_times_68 rfl (lv_at hl 0 rfl) ?_
        refine va_get (D := D) (ci := 0) (v := .ref pa) (C := R_Na) (T := T_Na) (N := 2) hx hb hts (fun w h => List.mem_cons_of_mem _ (in_Na w h)) hown hK hP 0 rfl rfl 0 (by decide) (hts _ (List.mem_cons_of_mem _ tw_31)) (fun _ h9 => h9) rfl d_Na_times_69 ?_
        refine va_alen (v := iI 306) hx hb hK hP 1 1 rfl rfl rfl d_Na_times_72 ?_
        refine ed_icmp_ge (tgt := 97) hx hb d_Na_times_73 rfl (by omega) (by omega) (fun h_3 => ?_) (fun h_3 => ?_)
        · skip
          refine ed_pc (pc' := 97) rfl ?_
          have h0 : V * F / 1000000000 ^ sz = 0 := by
            rcases Nat.lt_or_ge sz 306 with z | z
            · rw [← hcn]; omega
            · have h306 : sz = 306 := by omega
              rw [h306]; exact Nat.div_eq_of_lt hR
          have hlt : V * F < 1000000000 ^ sz := by rcases Nat.div_eq_zero_iff.mp h0 with z | z; exact absurd z (Nat.ne_of_gt (pB_pos sz)); exact z
          exact W.vret hx hb hr (fun t9 ht9 hW9 => ⟨⟨[(q, .inr (0, [.ref pa, .int (iI ((sz : Int)))])), (pa, .inl (cI, 306, .inl g))], rfl, ⟨_, _, rfl, hV1, hlt, fun z => Nat.le_trans (hV3 z) (Nat.le_mul_of_pos_right V hF.1), hlo⟩, by rw [ht9]; exact hP, hD⟩, hS.F ht9⟩) hS.2.2 d_Na_times_97
        · skip
          refine ed_pc (pc' := 76) rfl ?_
          refine lv_aload_n hx hb d_Na_times_76 rfl (lv_at hl 0 rfl) ?_
          refine va_get (D := D) (ci := 0) (v := .ref pa) (C := R_Na) (T := T_Na) (N := 2) hx hb hts (fun w h => List.mem_cons_of_mem _ (in_Na w h)) hown hK hP 0 rfl rfl 0 (by decide) (hts _ (List.mem_cons_of_mem _ tw_31)) (fun _ h9 => h9) rfl d_Na_times_77 ?_
          refine ed_pc (pc' := 80) rfl ?_
          refine lv_aload_n hx hb d_Na_times_80 rfl (lv_at hl 0 rfl) ?_
          refine va_get (D := D) (ci := 0) (v := .int (iI ((sz : Int)))) (C := R_Na) (T := T_Na) (N := 2) hx hb hts (fun w h => List.mem_cons_of_mem _ (in_Na w h)) hown hK hP 0 rfl rfl 1 (by decide) (hts _ (List.mem_cons_of_mem _ tw_32)) (fun _ h9 => h9) rfl d_Na_times_81 ?_
          refine lv_lload_n hx hb d_Na_times_84 rfl (lv_at hl 3 rfl) ?_
          refine ed_l2i hx hb d_Na_times_85 ?_
          refine ed_iast hx hb hK hP hD hS 1 1 rfl rfl (i) (by omega) (by omega) (by decide) d_Na_times_86 (fun H locs hP hD hS => ?_)
          have hP : va_P D ecl [(q, .inr (0, [.ref pa, .int (iI ((sz : Int)))])), (pa, .inl (cI, 306, .inl (upd g (i) ((iI (cy))))))] H := hP
          have hD : va_D A [(q, .inr (0, [.ref pa, .int (iI ((sz : Int)))])), (pa, .inl (cI, 306, .inl (upd g (i) ((iI (cy))))))] := hD
          refine lv_aload_n hx hb d_Na_times_87 rfl (lv_at hl 0 rfl) ?_
          refine lv_dup hx hb d_Na_times_88 rfl ?_
          refine va_get (D := D) (ci := 0) (v := .int (iI ((sz : Int)))) (C := R_Na) (T := T_Na) (N := 2) hx hb hts (fun w h => List.mem_cons_of_mem _ (in_Na w h)) hown hK hP 0 rfl rfl 1 (by decide) (hts _ (List.mem_cons_of_mem _ tw_32)) (fun _ h9 => h9) rfl d_Na_times_89 ?_
          refine ed_pc (pc' := 92) rfl ?_
          refine lv_iconst (v := iI 1) hx hb d_Na_times_92 rfl ?_
          refine ed_iadd hx hb d_Na_times_93 ?_
          refine va_put (D := D) (ci := 0) (v := .int (iI (((sz : Int)) + (1)))) (ty := .int) (C := R_Na) (T := T_Na) (N := 2) hx hb hts (fun w h => List.mem_cons_of_mem _ (in_Na w h)) y_Na t_Na n_Na hown hK hP hD hS 0 rfl rfl 1 (by decide) (hts _ (List.mem_cons_of_mem _ tw_32)) (fun _ h9 => h9) rfl (by decide +kernel) rfl rfl (Nat.le_of_ble_eq_true rfl) d_Na_times_94 (fun H locs hP hD hS => ?_)
          have hP : va_P D ecl [(q, .inr (0, [.ref pa, .int (iI (((sz : Int)) + (1)))])), (pa, .inl (cI, 306, .inl (upd g (i) ((iI (cy))))))] H := hP
          have hD : va_D A [(q, .inr (0, [.ref pa, .int (iI (((sz : Int)) + (1)))])), (pa, .inl (cI, 306, .inl (upd g (i) ((iI (cy))))))] := hD
          have hge : 1000000000 ^ sz ≤ V * F := by
            rcases Nat.lt_or_ge (V * F) (1000000000 ^ sz) with z | z
            · rw [Nat.div_eq_of_lt z] at hcn; omega
            · exact z
          have hlt : V * F / 1000000000 ^ sz < 1000000000 := by rw [← hcn]; omega
          have hlt2 : V * F < 1000000000 ^ (sz + 1) := by rw [Nat.pow_succ, Nat.mul_comm (1000000000 ^ sz)]; exact (Nat.div_lt_iff_lt_mul (pB_pos sz)).mp hlt
          exact W.vret hx hb hr (fun t9 ht9 hW9 => ⟨⟨[(q, .inr (0, [.ref pa, .int (iI (((sz : Int)) + (1)))])), (pa, .inl (cI, 306, .inl (upd g (i) ((iI (cy))))))], rfl, ⟨upd g i (iI cy), sz + 1, rfl, by omega, hlt2, fun _ => by simpa using hge, by rw [hsz]; exact upd_lo hlo (by rw [hc, Nat.mod_eq_of_lt hlt, hcn])⟩, by rw [ht9]; exact hP, hD⟩, hS.F ht9⟩) hS.2.2 d_Na_times_97
    · skip
      refine ed_pc (pc' := 14) rfl ?_
      obtain ⟨di, hdi⟩ : ∃ di : Nat, di = V / 1000000000 ^ i % 1000000000 := ⟨_, rfl⟩
      have hd1 : di < 1000000000 := by rw [hdi]; exact nb_lt V i
      have hcs : cn < F := by rw [hcn]; exact tm_small (by decide) hF.1
      obtain ⟨pr, hpr⟩ : ∃ pr : Nat, pr = di * F + cn := ⟨_, rfl⟩
      have hprb : di * F ≤ 999999999 * 999999999 := Nat.mul_le_mul (by omega) (by omega)
      have hpi : (pr : Int) = (di : Int) * (F : Int) + (cn : Int) := by rw [hpr]; simp
      have hdg : pr % 1000000000 = V * F / 1000000000 ^ i % 1000000000 := by rw [hpr, hdi, hcn]; exact tm_digit (by decide) V F i
      refine lv_aload_n hx hb d_Na_times_14 rfl (lv_at hl 0 rfl) ?_
      refine va_get (D := D) (ci := 0) (v := .ref pa) (C := R_Na) (T := T_Na) (N := 2) hx hb hts (fun w h => List.mem_cons_of_mem _ (in_Na w h)) hown hK hP 0 rfl rfl 0 (by decide) (hts _ (List.mem_cons_of_mem _ tw_31)) (fun _ h9 => h9) rfl d_Na_times_15 ?_
      refine lv_iload hx hb d_Na_times_18 (lv_at hl 2 rfl) ?_
      refine ed_pc (pc' := 20) rfl ?_
      refine ed_iald (y := (di : Int)) hx hb hK hP 1 1 rfl rfl (i) (by omega) (by omega) (by decide) (by rw [hdi]; exact hhi i (by omega) (by omega)) d_Na_times_20 ?_
      refine ed_i2l hx hb d_Na_times_21 (by omega) ?_
      refine lv_iload_n hx hb d_Na_times_22 rfl (lv_at hl 1 rfl) ?_
      refine ed_i2l hx hb d_Na_times_23 (by omega) ?_
      refine ed_lmul hx hb d_Na_times_24 ?_
      refine lv_lload_n hx hb d_Na_times_25 rfl (lv_at hl 3 rfl) ?_
      refine ed_ladd hx hb d_Na_times_26 ?_
      refine ed_tj (y := (pr : Int)) (by rw [hpi, hc]) ?_
      refine lv_lstore hx hb d_Na_times_27 hl (by decide) rfl (fun ls hl => ?_)
      have hl : lv_has ls 7 [(5, .long (jI ((pr : Int)))), (0, .ref q), (1, .int (iI ((F : Int)))), (4, .int (iI (zi))), (2, .long (jI (cy)))] := hl
      refine ed_pc (pc' := 29) rfl ?_
      refine lv_lload hx hb d_Na_times_29 (lv_at hl 0 rfl) ?_
      refine lv_ldc2 (v := 1000000000) hx hb hown (hts _ (List.mem_cons_of_mem _ tw_65)) d_Na_times_31 ?_
      refine ed_tl (y := (jI (1000000000))) (by decide +kernel) ?_
      refine ed_ldiv hx hb d_Na_times_34 (by omega) (by omega) (by omega) ?_
      obtain ⟨cn2, hcy⟩ : ∃ cn2 : Nat, cn2 = pr / 1000000000 := ⟨_, rfl⟩
      refine ed_tj (y := (cn2 : Int)) (by omega) ?_
      refine lv_lstore_n hx hb d_Na_times_35 rfl hl (by decide) rfl (fun ls hl => ?_)
      have hl : lv_has ls 7 [(2, .long (jI ((cn2 : Int)))), (5, .long (jI ((pr : Int)))), (0, .ref q), (1, .int (iI ((F : Int)))), (4, .int (iI (zi)))] := hl
      refine lv_aload_n hx hb d_Na_times_36 rfl (lv_at hl 2 rfl) ?_
      refine va_get (D := D) (ci := 0) (v := .ref pa) (C := R_Na) (T := T_Na) (N := 2) hx hb hts (fun w h => List.mem_cons_of_mem _ (in_Na w h)) hown hK hP 0 rfl rfl 0 (by decide) (hts _ (List.mem_cons_of_mem _ tw_31)) (fun _ h9 => h9) rfl d_Na_times_37 ?_
      refine lv_iload hx hb d_Na_times_40 (lv_at hl 4 rfl) ?_
      refine lv_lload hx hb d_Na_times_42 (lv_at hl 1 rfl) ?_
      refine ed_pc (pc' := 44) rfl ?_
      refine lv_lload_n hx hb d_Na_times_44 rfl (lv_at hl 0 rfl) ?_
      refine lv_ldc2 (v := 1000000000) hx hb hown (hts _ (List.mem_cons_of_mem _ tw_65)) d_Na_times_45 ?_
      refine ed_tl (y := (jI (1000000000))) (by decide +kernel) ?_
      refine ed_lmul hx hb d_Na_times_48 ?_
      refine ed_lsub hx hb d_Na_times_49 ?_
      refine ed_l2i hx hb d_Na_times_50 ?_
      refine ed_tz (y := ((V * F / 1000000000 ^ i % 1000000000 : Nat) : Int)) (by rw [← hdg]; omega) ?_
      refine ed_iast hx hb hK hP hD hS 1 1 rfl rfl (i) (by omega) (by omega) (by decide) d_Na_times_51 (fun H locs hP hD hS => ?_)
      have hP : va_P D ecl [(q, .inr (0, [.ref pa, .int (iI ((sz : Int)))])), (pa, .inl (cI, 306, .inl (upd g (i) ((iI (((V * F / 1000000000 ^ i % 1000000000 : Nat) : Int)))))))] H := hP
      have hD : va_D A [(q, .inr (0, [.ref pa, .int (iI ((sz : Int)))])), (pa, .inl (cI, 306, .inl (upd g (i) ((iI (((V * F / 1000000000 ^ i % 1000000000 : Nat) : Int)))))))] := hD
      refine lv_iinc (k := 4) (v := iI (zi + 1)) hx hb d_Na_times_52 hl rfl (iI_add _ _) (by decide) rfl (fun ls hl => ?_)
      have hl : lv_has ls 7 [(4, .int (iI (zi + 1))), (2, .long (jI ((cn2 : Int)))), (5, .long (jI ((pr : Int)))), (0, .ref q), (1, .int (iI ((F : Int))))] := hl
      refine lv_goto (tgt := 5) hx hb d_Na_times_55 rfl ?_
      have hl := lv_sub hl [3, 4, 0, 1] rfl
      exact ih _ (by omega) (i + 1) (upd g i (iI ((V * F / 1000000000 ^ i % 1000000000 : Nat) : Int))) (cn2) _ _ ls H locs rfl (by omega) (rfl) (by rw [hcy, hpr, hdi, hcn, tm_carry (by decide)]) (by omega) (upd_lo hlo rfl) (upd_hi hhi) hl hP hD hS
  refine lv_lconst (v := jI 0) hx hb d_Na_times_0 (by decide +kernel) ?_
  refine lv_lstore_n hx hb d_Na_times_1 rfl hl (by decide) rfl (fun ls hl => ?_)
  have hl : lv_has ls 7 [(2, .long (jI (0))), (0, .ref q), (1, .int (iI ((F : Int))))] := hl
  refine lv_iconst (v := iI 0) hx hb d_Na_times_2 rfl ?_
  refine lv_istore hx hb d_Na_times_3 hl (by decide) rfl (fun ls hl => ?_)
  have hl : lv_has ls 7 [(4, .int (iI (0))), (2, .long (jI (0))), (0, .ref q), (1, .int (iI ((F : Int))))] := hl
  have hl := lv_sub hl [2, 3, 0, 1] rfl
  exact L5 _ (0) (f) (0) _ _ ls s.heap [] rfl (rfl) (rfl) (by simp [Nat.mod_one]) (by omega) (fun j hj => absurd hj (by omega)) (fun j _ h2 => hV4 j h2) hl hP hD hS
