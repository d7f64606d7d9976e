set_option maxHeartbeats 4000000 in
set_option maxRecDepth 100000 in
/-- setUnsigned(V) -/
theorem c_Na_setUnsigned (l : Launch) (D : va_G) (cB cI cJ : ClassId) (t5 : Nat) (ad : Nat → Nat) (q pa : Nat) (f : Nat → Int32) (z0 : Int) (V : Nat) (hV : V < 2 ^ 64) : c_V l m_Na_setUnsigned (Cond.code m_Na_setUnsigned b_Na_setUnsigned 7 none :: gw) (rm_ 0 0) (eX t5 ad) D ecl (tyS cB cI cJ) [.ref q, .long (lN V)] [(q, .inr (0, [.ref pa, .int (iI (z0))])), (pa, .inl (cI, 306, .inl f))] (fun u => ∃ (f' : Nat → Int32) (sz' : Nat), u = [(q, .inr (0, [.ref pa, .int (iI ((sz' : Int)))])), (pa, .inl (cI, 306, .inl f'))] ∧ nt_ok f' sz' V) 0 0 := by
  intro sz0
  refine Met.ofW (cc := b_Na_setUnsigned) (maxL := 7) (ret := none) (by decide) rfl ?_
  intro p e s m args below meth c s₁ B hml hv
  obtain ⟨rfl, hsz, hP, hK, hD0, hE⟩ := hv
  have hx := B.exec
  have hb := B.bytes
  have hr := B.returns
  have hts := atoms_spec (ws := Cond.code m_Na_setUnsigned b_Na_setUnsigned 7 none :: gw) B.pre
  have hown : s.vm.findClass R_Na = some m.cls := findClass_of_methodNamed B.named
  have hlocks := B.notSynchronized
  subst hsz
  have hD := hD0.self (sz := s.heap.size)
  generalize hAe : va_A [(q, .inr (0, [.ref pa, .int (iI (z0))])), (pa, .inl (cI, 306, .inl f))] s.heap.size = A at hD hE ⊢
  have hA : ∀ q : Nat, s.heap.size ≤ q → A q := fun q h => by rw [← hAe]; exact Or.inr h
  have hS : va_S A s.heap s.heap [] := va_S.rf
  have hl := lv_entry ([.ref q, .long (lN V)]) (n := 7) (Nat.le_of_ble_eq_true rfl)
  rw [lg_entry_eq]
  generalize (lg_sl ([.ref q, .long (lN V)]) ++ List.replicate (7 - (lg_sl ([.ref q, .long (lN V)])).length) Slot.unset).toArray = ls at hl ⊢
  have hl : lv_has ls 7 [(0, .ref q), (1, .long (lN V))] := hl
  have L7 : ∀ (n9 : Nat) (k : Nat) (g : Nat → Int32) (r : Nat) (zk : Int) (rv : Int64) (ls : Array Slot) (H : Heap) (locs : List Loc), 3 - k = n9 → (zk = (k : Int)) → (rv = lN r) → (r = V / 1000000000 ^ k) → (k ≤ 3) → ((∀ j, j < k → g j = iI ((V / 1000000000 ^ j % 1000000000 : Nat) : Int))) → ((0 < k → 1000000000 ^ (k - 1) ≤ V)) → lv_has ls 7 [(0, .ref q), (3, .long (rv))] → va_P D ecl [(q, .inr (0, [.ref pa, .int (iI (zk))])), (pa, .inl (cI, 306, .inl g))] H → va_D A [(q, .inr (0, [.ref pa, .int (iI (zk))])), (pa, .inl (cI, 306, .inl g))] → va_S A s.heap H locs → W p l e (headSpec (Cond.code m_Na_setUnsigned b_Na_setUnsigned 7 none :: gw) (rm_ 0 0)).room s m ([.ref q, .long (lN V)] : List Value).toArray below meth c H locs 0 0 (MQ below (va_Qv (fun u => ∃ (f' : Nat → Int32) (sz' : Nat), u = [(q, .inr (0, [.ref pa, .int (iI ((sz' : Int)))])), (pa, .inl (cI, 306, .inl f'))] ∧ nt_ok f' sz' V) (c_B D ecl A) A) ([.ref q, .long (lN V)] : List Value).toArray s 0 0 A) (F0 m 7 ls []) := by
    intro n9
    induction n9 using Nat.strongRecOn with
    | ind n9 ih =>
    intro k g r zk rv ls H locs hn9 hk hr0 hrr hk3 hlo hpo hl hP hD hS
    refine lv_lload_n hx hb d_Na_setUnsigned_7 rfl (lv_at hl 1 rfl) ?_
    refine lv_lconst (v := jI 0) hx hb d_Na_setUnsigned_8 (by decide +kernel) ?_
    refine ed_lifx_eq (tgt := 68) hx hb d_Na_setUnsigned_9 d_Na_setUnsigned_10 rfl (fun h_1 => ?_) (fun h_1 => ?_)
    · skip
      refine ed_pc (pc' := 68) rfl ?_
      have hr64 : r < 2 ^ 64 := by rw [hrr]; exact Nat.lt_of_le_of_lt (Nat.div_le_self _ _) hV
      have hrp : r = 0 := (lN_0 hr64).mp (hr0.symm.trans h_1)
      have hlt : V < 1000000000 ^ k := by
        rcases Nat.div_eq_zero_iff.mp (hrr.symm.trans hrp) with z | z
        · exact absurd z (Nat.ne_of_gt (pB_pos k))
        · exact z
      exact W.vret hx hb hr (fun t9 ht9 hW9 => ⟨⟨[(q, .inr (0, [.ref pa, .int (iI (zk))])), (pa, .inl (cI, 306, .inl g))], rfl, ⟨g, k, by rw [hk], by omega, hlt, hpo, hlo⟩, by rw [ht9]; exact hP, hD⟩, hS.F ht9⟩) hS.2.2 d_Na_setUnsigned_68
    · skip
      refine ed_pc (pc' := 13) rfl ?_
      have hr64 : r < 2 ^ 64 := by rw [hrr]; exact Nat.lt_of_le_of_lt (Nat.div_le_self _ _) hV
      have hrp : 0 < r := by rcases Nat.eq_zero_or_pos r with z | z; exact absurd (hr0.trans ((lN_0 hr64).mpr z)) h_1; exact z
      have hBV : 1000000000 ^ k ≤ V := by
        rcases Nat.lt_or_ge V (1000000000 ^ k) with z | z
        · rw [Nat.div_eq_of_lt z] at hrr; omega
        · exact z
      have hk2 : k < 3 := by
        rcases Nat.lt_or_ge k 3 with z | z
        · exact z
        · have : k = 3 := by omega
          rw [this] at hBV; omega
      refine lv_aload_n hx hb d_Na_setUnsigned_13 rfl (lv_at hl 0 rfl) ?_
      refine va_get (D := D) (ci := 0) (v := .int (iI (zk))) (C := R_Na) (T := T_Na) (N := 2) hx hb hts (fun w h => List.mem_cons_of_mem _ (in_Na w h)) hown hK hP 0 rfl rfl 1 (by decide) (hts _ (List.mem_cons_of_mem _ tw_32)) (fun _ h9 => h9) rfl d_Na_setUnsigned_14 ?_
      refine lv_aload_n hx hb d_Na_setUnsigned_17 rfl (lv_at hl 0 rfl) ?_
      refine va_get (D := D) (ci := 0) (v := .ref pa) (C := R_Na) (T := T_Na) (N := 2) hx hb hts (fun w h => List.mem_cons_of_mem _ (in_Na w h)) hown hK hP 0 rfl rfl 0 (by decide) (hts _ (List.mem_cons_of_mem _ tw_31)) (fun _ h9 => h9) rfl d_Na_setUnsigned_18 ?_
      refine ed_pc (pc' := 21) rfl ?_
      refine va_alen (v := iI 306) hx hb hK hP 1 1 rfl rfl rfl d_Na_setUnsigned_21 ?_
      refine ed_icmp_ge (tgt := 68) hx hb d_Na_setUnsigned_22 rfl (by omega) (by omega) (fun h_2 => ?_) (fun h_2 => ?_)
      · exact absurd h_2 (by omega)
      · skip
        refine ed_pc (pc' := 25) rfl ?_
        refine lv_lload_n hx hb d_Na_setUnsigned_25 rfl (lv_at hl 1 rfl) ?_
        refine lv_iconst (v := iI 1) hx hb d_Na_setUnsigned_26 rfl ?_
        refine lv_lushr (v := (jI (((r / 2 : Nat) : Int)))) hx hb d_Na_setUnsigned_27 (by rw [hr0]; exact (wb_shr (k := 1) hr64 (by decide)).trans (jI_nat _).symm) ?_
        refine lv_ldc2 (v := 500000000) hx hb hown (hts _ (List.mem_cons_of_mem _ tw_64)) d_Na_setUnsigned_28 ?_
        refine ed_tl (y := (jI (500000000))) (by decide +kernel) ?_
        refine ed_ldiv hx hb d_Na_setUnsigned_31 (by omega) (by omega) (by omega) ?_
        obtain ⟨ab, hab⟩ : ∃ ab : Nat, ab = r / 1000000000 := ⟨_, rfl⟩
        obtain ⟨lo, hlo2⟩ : ∃ lo : Nat, lo = r % 1000000000 := ⟨_, rfl⟩
        refine ed_tj (y := (ab : Int)) (by omega) ?_
        refine lv_lstore hx hb d_Na_setUnsigned_32 hl (by decide) rfl (fun ls hl => ?_)
        have hl : lv_has ls 7 [(5, .long (jI ((ab : Int)))), (0, .ref q), (3, .long (rv))] := hl
        refine ed_pc (pc' := 34) rfl ?_
        refine lv_aload_n hx hb d_Na_setUnsigned_34 rfl (lv_at hl 1 rfl) ?_
        refine va_get (D := D) (ci := 0) (v := .ref pa) (C := R_Na) (T := T_Na) (N := 2) hx hb hts (fun w h => List.mem_cons_of_mem _ (in_Na w h)) hown hK hP 0 rfl rfl 0 (by decide) (hts _ (List.mem_cons_of_mem _ tw_31)) (fun _ h9 => h9) rfl d_Na_setUnsigned_35 ?_
        refine lv_aload_n hx hb d_Na_setUnsigned_38 rfl (lv_at hl 1 rfl) ?_
        refine va_get (D := D) (ci := 0) (v := .int (iI (zk))) (C := R_Na) (T := T_Na) (N := 2) hx hb hts (fun w h => List.mem_cons_of_mem _ (in_Na w h)) hown hK hP 0 rfl rfl 1 (by decide) (hts _ (List.mem_cons_of_mem _ tw_32)) (fun _ h9 => h9) rfl d_Na_setUnsigned_39 ?_
        refine lv_lload_n hx hb d_Na_setUnsigned_42 rfl (lv_at hl 2 rfl) ?_
        refine lv_lload hx hb d_Na_setUnsigned_43 (lv_at hl 0 rfl) ?_
        refine lv_ldc2 (v := 1000000000) hx hb hown (hts _ (List.mem_cons_of_mem _ tw_65)) d_Na_setUnsigned_45 ?_
        refine ed_tl (y := (jI (1000000000))) (by decide +kernel) ?_
        refine ed_lmul hx hb d_Na_setUnsigned_48 ?_
        refine ed_pc (pc' := 49) rfl ?_
        refine lv_lsub hx hb d_Na_setUnsigned_49 ?_
        refine ed_tl (y := (jI ((lo : Int)))) (by rw [hr0, ← jI_nat, jI_sub]; congr 1; omega) ?_
        refine ed_l2i hx hb d_Na_setUnsigned_50 ?_
        refine ed_iast hx hb hK hP hD hS 1 1 rfl rfl (k) (by omega) (by omega) (by decide) d_Na_setUnsigned_51 (fun H locs hP hD hS => ?_)
        have hP : va_P D ecl [(q, .inr (0, [.ref pa, .int (iI (zk))])), (pa, .inl (cI, 306, .inl (upd g (k) ((iI ((lo : Int)))))))] H := hP
        have hD : va_D A [(q, .inr (0, [.ref pa, .int (iI (zk))])), (pa, .inl (cI, 306, .inl (upd g (k) ((iI ((lo : Int)))))))] := hD
        refine lv_lload hx hb d_Na_setUnsigned_52 (lv_at hl 0 rfl) ?_
        refine lv_lstore_n hx hb d_Na_setUnsigned_54 rfl hl (by decide) rfl (fun ls hl => ?_)
        have hl : lv_has ls 7 [(3, .long (jI ((ab : Int)))), (5, .long (jI ((ab : Int)))), (0, .ref q)] := hl
        refine lv_aload_n hx hb d_Na_setUnsigned_55 rfl (lv_at hl 2 rfl) ?_
        refine lv_dup hx hb d_Na_setUnsigned_56 rfl ?_
        refine va_get (D := D) (ci := 0) (v := .int (iI (zk))) (C := R_Na) (T := T_Na) (N := 2) hx hb hts (fun w h => List.mem_cons_of_mem _ (in_Na w h)) hown hK hP 0 rfl rfl 1 (by decide) (hts _ (List.mem_cons_of_mem _ tw_32)) (fun _ h9 => h9) rfl d_Na_setUnsigned_57 ?_
        refine ed_pc (pc' := 60) rfl ?_
        refine lv_iconst (v := iI 1) hx hb d_Na_setUnsigned_60 rfl ?_
        refine ed_iadd hx hb d_Na_setUnsigned_61 ?_
        refine va_put (D := D) (ci := 0) (v := .int (iI ((zk) + (1)))) (ty := .int) (C := R_Na) (T := T_Na) (N := 2) hx hb hts (fun w h => List.mem_cons_of_mem _ (in_Na w h)) y_Na t_Na n_Na hown hK hP hD hS 0 rfl rfl 1 (by decide) (hts _ (List.mem_cons_of_mem _ tw_32)) (fun _ h9 => h9) rfl (by decide +kernel) rfl rfl (Nat.le_of_ble_eq_true rfl) d_Na_setUnsigned_62 (fun H locs hP hD hS => ?_)
        have hP : va_P D ecl [(q, .inr (0, [.ref pa, .int (iI ((zk) + (1)))])), (pa, .inl (cI, 306, .inl (upd g (k) ((iI ((lo : Int)))))))] H := hP
        have hD : va_D A [(q, .inr (0, [.ref pa, .int (iI ((zk) + (1)))])), (pa, .inl (cI, 306, .inl (upd g (k) ((iI ((lo : Int)))))))] := hD
        refine lv_goto (tgt := 7) hx hb d_Na_setUnsigned_65 rfl ?_
        have hl := lv_sub hl [2, 0] rfl
        exact ih _ (by omega) (k + 1) (upd g k (iI (lo : Int))) (ab) _ _ ls H locs rfl (by omega) (jI_nat _) (by rw [hab, hrr, Nat.div_div_eq_div_mul, ← Nat.pow_succ]) (by omega) (upd_lo hlo (by rw [hlo2, hrr])) (fun _ => hBV) hl hP hD hS
  refine lv_lload_n hx hb d_Na_setUnsigned_0 rfl (lv_at hl 1 rfl) ?_
  refine lv_lstore_n hx hb d_Na_setUnsigned_1 rfl hl (by decide) rfl (fun ls hl => ?_)
  have hl : lv_has ls 7 [(3, .long (lN V)), (0, .ref q), (1, .long (lN V))] := hl
  refine lv_aload_n hx hb d_Na_setUnsigned_2 rfl (lv_at hl 1 rfl) ?_
  refine lv_iconst (v := iI 0) hx hb d_Na_setUnsigned_3 rfl ?_
  refine va_put (D := D) (ci := 0) (v := .int (iI (0))) (ty := .int) (C := R_Na) (T := T_Na) (N := 2) hx hb hts (fun w h => List.mem_cons_of_mem _ (in_Na w h)) y_Na t_Na n_Na hown hK hP hD hS 0 rfl rfl 1 (by decide) (hts _ (List.mem_cons_of_mem _ tw_32)) (fun _ h9 => h9) rfl (by decide +kernel) rfl rfl (Nat.le_of_ble_eq_true rfl) d_Na_setUnsigned_4 (fun H locs hP hD hS => ?_)
  have hP : va_P D ecl [(q, .inr (0, [.ref pa, .int (iI (0))])), (pa, .inl (cI, 306, .inl f))] H := hP
  have hD : va_D A [(q, .inr (0, [.ref pa, .int (iI (0))])), (pa, .inl (cI, 306, .inl f))] := hD
  have hl := lv_sub hl [1, 0] rfl
  exact L7 _ (0) (f) (V) _ _ ls H locs rfl (rfl) (rfl) (by simp) (by omega) (fun j hj => absurd hj (by omega)) (fun h => absurd h (by omega)) hl hP hD hS
set_option maxHeartbeats 4000000 in
set_option maxRecDepth 100000 in
/-- length() -/
theorem c_Na_length (l : Launch) (D : va_G) (cB cI cJ : ClassId) (t5 : Nat) (ad : Nat → Nat) (q pa : Nat) (f : Nat → Int32) (sz V : Nat) (hV : nt_ok f sz V) : c_I l m_Na_length (Cond.code m_Na_length b_Na_length 3 (some .int) :: gw) (rm_ 0 0) (eX t5 ad) D ecl (tyS cB cI cJ) [.ref q] [(q, .inr (0, [.ref pa, .int (iI ((sz : Int)))])), (pa, .inl (cI, 306, .inl f))] (fun r u => r = iI ((dl V : Nat) : Int) ∧ u = [(q, .inr (0, [.ref pa, .int (iI ((sz : Int)))])), (pa, .inl (cI, 306, .inl f))]) 0 0 := by
  intro sz0
  refine Met.ofW (cc := b_Na_length) (maxL := 3) (ret := (some .int)) (by decide) rfl ?_
  intro p e s m args below meth c s₁ B hml hv
  obtain ⟨rfl, hsz, hP, hK, hD0, hE⟩ := hv
  have hx := B.exec
  have hb := B.bytes
  have hr := B.returns
  have hts := atoms_spec (ws := Cond.code m_Na_length b_Na_length 3 (some .int) :: gw) B.pre
  have hown : s.vm.findClass R_Na = some m.cls := findClass_of_methodNamed B.named
  have hlocks := B.notSynchronized
  subst hsz
  have hD := hD0.self (sz := s.heap.size)
  generalize hAe : va_A [(q, .inr (0, [.ref pa, .int (iI ((sz : Int)))])), (pa, .inl (cI, 306, .inl f))] s.heap.size = A at hD hE ⊢
  have hA : ∀ q : Nat, s.heap.size ≤ q → A q := fun q h => by rw [← hAe]; exact Or.inr h
  have hS : va_S A s.heap s.heap [] := va_S.rf
  have hl := lv_entry ([.ref q]) (n := 3) (Nat.le_of_ble_eq_true rfl)
  rw [lg_entry_eq]
  generalize (lg_sl ([.ref q]) ++ List.replicate (3 - (lg_sl ([.ref q])).length) Slot.unset).toArray = ls at hl ⊢
  have hl : lv_has ls 3 [(0, .ref q)] := hl
  have hz := nt_zero hV
  have hV0 := hV
  obtain ⟨hV1, hV2, hV3, hV4⟩ := hV
  have hdl : dl V ≤ 2754 := by
    apply dl_bound
    rw [pB_10] at hV2
    exact Nat.lt_of_lt_of_le hV2 (p10_le (by omega))
  have L31 : ∀ (n9 : Nat) (x : Nat) (zl : Int) (zx : Int) (ls : Array Slot) (H : Heap) (locs : List Loc), x = n9 → (zx = (x : Int)) → (zl + ((dl x : Nat) : Int) = ((dl V : Nat) : Int)) → (x < 1000000000) → lv_has ls 3 [(0, .ref q), (1, .int (iI (zl))), (2, .int (iI (zx)))] → va_P D ecl [(q, .inr (0, [.ref pa, .int (iI ((sz : Int)))])), (pa, .inl (cI, 306, .inl f))] H → va_D A [(q, .inr (0, [.ref pa, .int (iI ((sz : Int)))])), (pa, .inl (cI, 306, .inl f))] → va_S A s.heap H locs → W p l e (headSpec (Cond.code m_Na_length b_Na_length 3 (some .int) :: gw) (rm_ 0 0)).room s m ([.ref q] : List Value).toArray below meth c H locs 0 0 (MQ below (va_Qi (fun r u => r = iI ((dl V : Nat) : Int) ∧ u = [(q, .inr (0, [.ref pa, .int (iI ((sz : Int)))])), (pa, .inl (cI, 306, .inl f))]) (c_B D ecl A) A) ([.ref q] : List Value).toArray s 0 0 A) (F0 m 31 ls []) := by
    intro n9
    induction n9 using Nat.strongRecOn with
    | ind n9 ih =>
    intro x zl zx ls H locs hn9 hzx hzl hx9 hl hP hD hS
    refine lv_iload_n hx hb d_Na_length_31 rfl (lv_at hl 2 rfl) ?_
    refine ed_if_le (tgt := 46) hx hb d_Na_length_32 rfl (by omega) (fun h_1 => ?_) (fun h_1 => ?_)
    · skip
      refine ed_pc (pc' := 46) rfl ?_
      refine lv_iload_n hx hb d_Na_length_46 rfl (lv_at hl 1 rfl) ?_
      have hx0 : x = 0 := by omega
      rw [hx0, dl_0] at hzl
      refine ed_tz (y := ((dl V : Nat) : Int)) (by omega) ?_
      exact W.iret (v := (iI (((dl V : Nat) : Int)))) hx hb hr (fun t9 ht9 hW9 => ⟨⟨(iI (((dl V : Nat) : Int))), [(q, .inr (0, [.ref pa, .int (iI ((sz : Int)))])), (pa, .inl (cI, 306, .inl f))], rfl, ⟨rfl, rfl⟩, by rw [ht9]; exact hP, hD⟩, hS.F ht9⟩) hS.2.2 d_Na_length_47
    · skip
      refine ed_pc (pc' := 35) rfl ?_
      refine lv_iinc (k := 1) (v := iI (zl + 1)) hx hb d_Na_length_35 hl rfl (iI_add _ _) (by decide) rfl (fun ls hl => ?_)
      have hl : lv_has ls 3 [(1, .int (iI (zl + 1))), (0, .ref q), (2, .int (iI (zx)))] := hl
      refine lv_iload_n hx hb d_Na_length_38 rfl (lv_at hl 2 rfl) ?_
      refine lv_bipush (v := iI 10) hx hb d_Na_length_39 (by decide +kernel) ?_
      refine ed_idiv hx hb d_Na_length_41 (by omega) (by omega) (by omega) ?_
      refine lv_istore_n hx hb d_Na_length_42 rfl hl (by decide) rfl (fun ls hl => ?_)
      have hl : lv_has ls 3 [(2, .int (iI ((zx) / (10)))), (1, .int (iI (zl + 1))), (0, .ref q)] := hl
      refine ed_pc (pc' := 43) rfl ?_
      refine lv_goto (tgt := 31) hx hb d_Na_length_43 rfl ?_
      have hl := lv_sub hl [2, 1, 0] rfl
      exact ih _ (by omega) (x / 10) _ _ ls H locs rfl (by omega) (by rw [dl_s (by omega)] at hzl; omega) (by omega) hl hP hD hS
  refine lv_aload_n hx hb d_Na_length_0 rfl (lv_at hl 0 rfl) ?_
  refine va_get (D := D) (ci := 0) (v := .int (iI ((sz : Int)))) (C := R_Na) (T := T_Na) (N := 2) hx hb hts (fun w h => List.mem_cons_of_mem _ (in_Na w h)) hown hK hP 0 rfl rfl 1 (by decide) (hts _ (List.mem_cons_of_mem _ tw_32)) (fun _ h9 => h9) rfl d_Na_length_1 ?_
  refine ed_if_ne (tgt := 9) hx hb d_Na_length_4 rfl (by omega) (fun h_2 => ?_) (fun h_2 => ?_)
  · skip
    refine ed_pc (pc' := 9) rfl ?_
    refine lv_aload_n hx hb d_Na_length_9 rfl (lv_at hl 0 rfl) ?_
    refine va_get (D := D) (ci := 0) (v := .int (iI ((sz : Int)))) (C := R_Na) (T := T_Na) (N := 2) hx hb hts (fun w h => List.mem_cons_of_mem _ (in_Na w h)) hown hK hP 0 rfl rfl 1 (by decide) (hts _ (List.mem_cons_of_mem _ tw_32)) (fun _ h9 => h9) rfl d_Na_length_10 ?_
    refine lv_iconst (v := iI 1) hx hb d_Na_length_13 rfl ?_
    refine ed_isub hx hb d_Na_length_14 ?_
    refine ed_pc (pc' := 15) rfl ?_
    refine lv_bipush (v := iI 9) hx hb d_Na_length_15 (by decide +kernel) ?_
    refine ed_imul hx hb d_Na_length_17 ?_
    refine lv_istore_n hx hb d_Na_length_18 rfl hl (by decide) rfl (fun ls hl => ?_)
    have hl : lv_has ls 3 [(1, .int (iI ((((sz : Int)) - (1)) * (9)))), (0, .ref q)] := hl
    refine lv_aload_n hx hb d_Na_length_19 rfl (lv_at hl 1 rfl) ?_
    refine va_get (D := D) (ci := 0) (v := .ref pa) (C := R_Na) (T := T_Na) (N := 2) hx hb hts (fun w h => List.mem_cons_of_mem _ (in_Na w h)) hown hK hP 0 rfl rfl 0 (by decide) (hts _ (List.mem_cons_of_mem _ tw_31)) (fun _ h9 => h9) rfl d_Na_length_20 ?_
    refine lv_aload_n hx hb d_Na_length_23 rfl (lv_at hl 1 rfl) ?_
    refine va_get (D := D) (ci := 0) (v := .int (iI ((sz : Int)))) (C := R_Na) (T := T_Na) (N := 2) hx hb hts (fun w h => List.mem_cons_of_mem _ (in_Na w h)) hown hK hP 0 rfl rfl 1 (by decide) (hts _ (List.mem_cons_of_mem _ tw_32)) (fun _ h9 => h9) rfl d_Na_length_24 ?_
    refine lv_iconst (v := iI 1) hx hb d_Na_length_27 rfl ?_
    refine ed_pc (pc' := 28) rfl ?_
    refine ed_isub hx hb d_Na_length_28 ?_
    refine ed_iald (y := ((V / 1000000000 ^ (sz - 1) : Nat) : Int)) hx hb hK hP 1 1 rfl rfl (sz - 1) (by omega) (by omega) (by decide) (by rw [hV4 (sz - 1) (by omega), (nt_top hV0 (by omega)).1]) d_Na_length_29 ?_
    refine lv_istore_n hx hb d_Na_length_30 rfl hl (by decide) rfl (fun ls hl => ?_)
    have hl : lv_has ls 3 [(2, .int (iI (((V / 1000000000 ^ (sz - 1) : Nat) : Int)))), (1, .int (iI ((((sz : Int)) - (1)) * (9)))), (0, .ref q)] := hl
    have hl := lv_sub hl [2, 1, 0] rfl
    exact L31 _ (V / 1000000000 ^ (sz - 1)) _ _ ls s.heap [] rfl (rfl) (by rw [nt_len hV0 (by omega)]; omega) (by have := nb_lt V (sz - 1); rw [(nt_top hV0 (by omega)).1] at this; exact this) hl hP hD hS
  · skip
    refine ed_pc (pc' := 7) rfl ?_
    refine lv_iconst (v := iI 0) hx hb d_Na_length_7 rfl ?_
    have h0 : V = 0 := hz.mp (by omega)
    refine ed_tz (y := ((dl V : Nat) : Int)) (by rw [h0, dl_0]; rfl) ?_
    exact W.iret (v := (iI (((dl V : Nat) : Int)))) hx hb hr (fun t9 ht9 hW9 => ⟨⟨(iI (((dl V : Nat) : Int))), [(q, .inr (0, [.ref pa, .int (iI ((sz : Int)))])), (pa, .inl (cI, 306, .inl f))], rfl, ⟨rfl, rfl⟩, by rw [ht9]; exact hP, hD⟩, hS.F ht9⟩) hS.2.2 d_Na_length_8
