set_option maxHeartbeats 4000000 in
set_option maxRecDepth 100000 in
/-- timesTwoTo(k) -/
theorem c_Na_timesTwoTo (l : Launch) (D : va_G) (cB cI cJ : ClassId) (t5 : Nat) (ad : Nat → Nat) (q pa : Nat) (f : Nat → Int32) (sz V : Nat) (k : Int) (hk : -100000 ≤ k ∧ k ≤ 100000) (hV : nt_ok f sz V) (hR : V * tw2 k < 1000000000 ^ 306) : c_I l m_Na_timesTwoTo (Cond.code m_Na_timesTwoTo b_Na_timesTwoTo 3 (some .int) :: gw) (rm_ 1 26) (eX t5 ad) D ecl (tyS cB cI cJ) [.ref q, .int (iI (k))] [(q, .inr (0, [.ref pa, .int (iI ((sz : Int)))])), (pa, .inl (cI, 306, .inl f))] (fun r u => r = iI (min k 0) ∧ ∃ (f' : Nat → Int32) (sz' : Nat), u = [(q, .inr (0, [.ref pa, .int (iI ((sz' : Int)))])), (pa, .inl (cI, 306, .inl f'))] ∧ nt_ok f' sz' (V * tw2 k)) 0 0 := by
  intro sz0
  refine Met.ofW (cc := b_Na_timesTwoTo) (maxL := 3) (ret := (some .int)) (by decide) rfl ?_
  intro p e s m args below meth c s₁ B hml hv
  obtain ⟨rfl, hsz, hP, hK, hD0, hE⟩ := hv
  have hx := B.exec
  have hb := B.bytes
  have hr := B.returns
  have hts := atoms_spec (ws := Cond.code m_Na_timesTwoTo b_Na_timesTwoTo 3 (some .int) :: gw) B.pre
  have hown : s.vm.findClass R_Na = some m.cls := findClass_of_methodNamed B.named
  have hlocks := B.notSynchronized
  subst hsz
  have hD := hD0.self (sz := s.heap.size)
  generalize hAe : va_A [(q, .inr (0, [.ref pa, .int (iI ((sz : Int)))])), (pa, .inl (cI, 306, .inl f))] s.heap.size = A at hD hE ⊢
  have hA : ∀ q : Nat, s.heap.size ≤ q → A q := fun q h => by rw [← hAe]; exact Or.inr h
  have hS : va_S A s.heap s.heap [] := va_S.rf
  have hl := lv_entry ([.ref q, .int (iI (k))]) (n := 3) (Nat.le_of_ble_eq_true rfl)
  rw [lg_entry_eq]
  generalize (lg_sl ([.ref q, .int (iI (k))]) ++ List.replicate (3 - (lg_sl ([.ref q, .int (iI (k))])).length) Slot.unset).toArray = ls at hl ⊢
  have hl : lv_has ls 3 [(0, .ref q), (1, .int (iI (k)))] := hl
  have L27 : ∀ (n9 : Nat) (left : Nat) (g : Nat → Int32) (s2 : Nat) (V2 : Nat) (zl : Int) (zs : Int) (ls : Array Slot) (H : Heap) (locs : List Loc), left = n9 → ((zl = (left : Int) ∨ (zl ≤ 0 ∧ left = 0))) → (-100000 ≤ zl) → ((left : Int) ≤ 100000) → (zs = (s2 : Int)) → (nt_ok g s2 V2) → (V2 * 5 ^ left = V * tw2 k) → lv_has ls 3 [(0, .ref q), (1, .int (iI (k))), (2, .int (iI (zl)))] → va_P D ecl [(q, .inr (0, [.ref pa, .int (iI (zs))])), (pa, .inl (cI, 306, .inl g))] H → va_D A [(q, .inr (0, [.ref pa, .int (iI (zs))])), (pa, .inl (cI, 306, .inl g))] → va_S A s.heap H locs → W p l e (headSpec (Cond.code m_Na_timesTwoTo b_Na_timesTwoTo 3 (some .int) :: gw) (rm_ 1 26)).room s m ([.ref q, .int (iI (k))] : List Value).toArray below meth c H locs 0 0 (MQ below (va_Qi (fun r u => r = iI (min k 0) ∧ ∃ (f' : Nat → Int32) (sz' : Nat), u = [(q, .inr (0, [.ref pa, .int (iI ((sz' : Int)))])), (pa, .inl (cI, 306, .inl f'))] ∧ nt_ok f' sz' (V * tw2 k)) (c_B D ecl A) A) ([.ref q, .int (iI (k))] : List Value).toArray s 0 0 A) (F0 m 27 ls []) := by
    intro n9
    induction n9 using Nat.strongRecOn with
    | ind n9 ih =>
    intro left g s2 V2 zl zs ls H locs hn9 hzl hzr hlk hzs hok hV2 hl hP hD hS
    refine lv_iload_n hx hb d_Na_timesTwoTo_27 rfl (lv_at hl 2 rfl) ?_
    refine ed_if_le (tgt := 51) hx hb d_Na_timesTwoTo_28 rfl (by omega) (fun h_1 => ?_) (fun h_1 => ?_)
    · skip
      refine ed_pc (pc' := 51) rfl ?_
      refine lv_iload_n hx hb d_Na_timesTwoTo_51 rfl (lv_at hl 1 rfl) ?_
      refine lv_iconst (v := iI 0) hx hb d_Na_timesTwoTo_52 rfl ?_
      refine ed_min hx hb (hml.trans hl.1.symm) hown (hts _ (List.mem_cons_of_mem _ tw_83)) (hts _ (List.mem_cons_of_mem _ tw_84)) (hts _ (List.mem_cons_of_mem _ tw_6)) (hts _ (List.mem_cons_of_mem _ tw_85)) (Nat.le_of_ble_eq_true rfl) (Nat.le_of_ble_eq_true rfl) (Nat.le_of_ble_eq_true rfl) (Nat.le_of_ble_eq_true rfl) (by omega) (by omega) d_Na_timesTwoTo_53 ?_
      have hl0 : left = 0 := by omega
      rw [hl0, Nat.pow_zero, Nat.mul_one] at hV2
      exact W.iret (v := (iI (min (k) (0)))) hx hb hr (fun t9 ht9 hW9 => ⟨⟨(iI (min (k) (0))), [(q, .inr (0, [.ref pa, .int (iI (zs))])), (pa, .inl (cI, 306, .inl g))], rfl, ⟨rfl, g, s2, by rw [hzs], by rw [← hV2]; exact hok⟩, by rw [ht9]; exact hP, hD⟩, hS.F ht9⟩) hS.2.2 d_Na_timesTwoTo_56
    · skip
      refine ed_pc (pc' := 31) rfl ?_
      subst hzs
      obtain ⟨mn, hmn⟩ : ∃ mn : Nat, mn = min left 12 := ⟨_, rfl⟩
      have hpw : 5 ^ mn ≤ 244140625 := Nat.le_trans (Nat.pow_le_pow_right (by decide) (show mn ≤ 12 by omega)) (by decide)
      have hpp : 0 < 5 ^ mn := Nat.pow_pos (by decide)
      have hrm : V2 * 5 ^ mn < 1000000000 ^ 306 := by
        refine Nat.lt_of_le_of_lt (Nat.mul_le_mul_left V2 (Nat.pow_le_pow_right (by decide) (show mn ≤ left by omega))) ?_
        rw [hV2]; exact hR
      refine lv_aload_n hx hb d_Na_timesTwoTo_31 rfl (lv_at hl 0 rfl) ?_
      refine va_gets hx hb hE.1 hS hown (hts _ (List.mem_cons_of_mem _ tw_126)) (fun _ h => h) d_Na_timesTwoTo_32 ?_
      refine lv_iload_n hx hb d_Na_timesTwoTo_35 rfl (lv_at hl 2 rfl) ?_
      refine lv_bipush (v := iI 12) hx hb d_Na_timesTwoTo_36 (by decide +kernel) ?_
      refine ed_min hx hb (hml.trans hl.1.symm) hown (hts _ (List.mem_cons_of_mem _ tw_83)) (hts _ (List.mem_cons_of_mem _ tw_84)) (hts _ (List.mem_cons_of_mem _ tw_6)) (hts _ (List.mem_cons_of_mem _ tw_85)) (Nat.le_of_ble_eq_true rfl) (Nat.le_of_ble_eq_true rfl) (Nat.le_of_ble_eq_true rfl) (Nat.le_of_ble_eq_true rfl) (by omega) (by omega) d_Na_timesTwoTo_38 ?_
      refine va_ti (v := .int (iI ((5 ^ mn : Nat) : Int))) hx hb hE.2.1 hS (iI_in (by omega) (by omega) (by decide)) (by rw [iI_clamp (by omega)]; congr 4; omega) d_Na_timesTwoTo_41 ?_
      have hok2 := hok
      refine c_fv (wc := [(q, .inr (0, [.ref pa, .int (iI ((s2 : Int)))])), (pa, .inl (cI, 306, .inl g))]) (wr := []) (va_runV (C := "ExactDigits$Natural") (As := [.int (iI (((5 ^ mn : Nat) : Int)))]) (rest := []) ⟨hx, hb, hml, hown, hts⟩ (c_Na_times l D cB cI cJ t5 ad q pa g s2 V2 (5 ^ mn) hok (⟨hpp, by omega⟩) (hrm) H.size) (cwV 1 hts (gV tw_122 tw_124 ts_3 tw_2 tw_125) rfl rfl rfl (by decide +kernel) ⟨Nat.le_of_ble_eq_true rfl, Nat.le_of_ble_eq_true rfl⟩) ⟨c_blind (eX_X t5 ad), va_recv (ci := 0) (q0 := 0) hK hP rfl rfl, fun U hU hW => c_pre (wc := [(q, .inr (0, [.ref pa, .int (iI ((s2 : Int)))])), (pa, .inl (cI, 306, .inl g))]) (eX_X t5 ad) hE hK hP hD hS hA [0, 1] rfl (by decide) U hU hW⟩ rfl rfl hl.1 rfl (lv_room (Nat.le_of_ble_eq_true rfl)) d_Na_timesTwoTo_42 ⟨Nat.le_of_ble_eq_true rfl, Nat.le_of_ble_eq_true rfl⟩) hP hD hS hA [0, 1] [] rfl rfl (by decide) (by decide) (fun u H locs hp hP hD hS => ?_)
      obtain ⟨f3, s3, rfl, hok3⟩ := hp
      have hP : va_P D ecl [(q, .inr (0, [.ref pa, .int (iI ((s3 : Int)))])), (pa, .inl (cI, 306, .inl f3))] H := hP
      have hD : va_D A [(q, .inr (0, [.ref pa, .int (iI ((s3 : Int)))])), (pa, .inl (cI, 306, .inl f3))] := hD
      refine ed_pc (pc' := 45) rfl ?_
      refine lv_iinc (k := 2) (v := iI (zl + (-12))) hx hb d_Na_timesTwoTo_45 hl rfl (iI_add _ _) (by decide) rfl (fun ls hl => ?_)
      have hl : lv_has ls 3 [(2, .int (iI (zl + (-12)))), (0, .ref q), (1, .int (iI (k)))] := hl
      refine lv_goto (tgt := 27) hx hb d_Na_timesTwoTo_48 rfl ?_
      have hl := lv_sub hl [1, 2, 0] rfl
      exact ih _ (by omega) (left - mn) (f3) (s3) (V2 * 5 ^ mn) _ _ ls H locs rfl (by omega) (by omega) (by omega) (rfl) (hok3) (by rw [← hV2, Nat.mul_assoc, ← Nat.pow_add]; congr 2; omega) hl hP hD hS
  have L2 : ∀ (n9 : Nat) (left : Nat) (g : Nat → Int32) (s2 : Nat) (V2 : Nat) (zl : Int) (zs : Int) (ls : Array Slot) (H : Heap) (locs : List Loc), left = n9 → ((zl = (left : Int) ∨ (zl ≤ 0 ∧ left = 0))) → (-100000 ≤ zl) → ((left : Int) ≤ 100000) → (zs = (s2 : Int)) → (nt_ok g s2 V2) → (V2 * 2 ^ left = V * tw2p k) → lv_has ls 3 [(0, .ref q), (1, .int (iI (k))), (2, .int (iI (zl)))] → va_P D ecl [(q, .inr (0, [.ref pa, .int (iI (zs))])), (pa, .inl (cI, 306, .inl g))] H → va_D A [(q, .inr (0, [.ref pa, .int (iI (zs))])), (pa, .inl (cI, 306, .inl g))] → va_S A s.heap H locs → W p l e (headSpec (Cond.code m_Na_timesTwoTo b_Na_timesTwoTo 3 (some .int) :: gw) (rm_ 1 26)).room s m ([.ref q, .int (iI (k))] : List Value).toArray below meth c H locs 0 0 (MQ below (va_Qi (fun r u => r = iI (min k 0) ∧ ∃ (f' : Nat → Int32) (sz' : Nat), u = [(q, .inr (0, [.ref pa, .int (iI ((sz' : Int)))])), (pa, .inl (cI, 306, .inl f'))] ∧ nt_ok f' sz' (V * tw2 k)) (c_B D ecl A) A) ([.ref q, .int (iI (k))] : List Value).toArray s 0 0 A) (F0 m 2 ls []) := by
    intro n9
    induction n9 using Nat.strongRecOn with
    | ind n9 ih =>
    intro left g s2 V2 zl zs ls H locs hn9 hzl hzr hlk hzs hok hV2 hl hP hD hS
    refine lv_iload_n hx hb d_Na_timesTwoTo_2 rfl (lv_at hl 2 rfl) ?_
    refine ed_if_le (tgt := 24) hx hb d_Na_timesTwoTo_3 rfl (by omega) (fun h_2 => ?_) (fun h_2 => ?_)
    · skip
      refine ed_pc (pc' := 24) rfl ?_
      have hl0 : left = 0 := by omega
      rw [hl0, Nat.pow_zero, Nat.mul_one] at hV2
      refine lv_iload_n hx hb d_Na_timesTwoTo_24 rfl (lv_at hl 1 rfl) ?_
      refine ed_ineg hx hb d_Na_timesTwoTo_25 ?_
      refine lv_istore_n hx hb d_Na_timesTwoTo_26 rfl hl (by decide) rfl (fun ls hl => ?_)
      have hl : lv_has ls 3 [(2, .int (iI (-(k)))), (0, .ref q), (1, .int (iI (k)))] := hl
      have hl := lv_sub hl [1, 2, 0] rfl
      exact L27 _ ((-k).toNat) (g) (s2) (V2) _ _ ls H locs rfl (by omega) (by omega) (by omega) (hzs) (hok) (by rw [hV2]; exact tw2_b V k) hl hP hD hS
    · skip
      refine ed_pc (pc' := 6) rfl ?_
      subst hzs
      obtain ⟨mn, hmn⟩ : ∃ mn : Nat, mn = min left 29 := ⟨_, rfl⟩
      have hpw : 2 ^ mn ≤ 536870912 := Nat.le_trans (Nat.pow_le_pow_right (by decide) (show mn ≤ 29 by omega)) (by decide)
      have hpp : 0 < 2 ^ mn := Nat.pow_pos (by decide)
      have hrm : V2 * 2 ^ mn < 1000000000 ^ 306 := by
        refine Nat.lt_of_le_of_lt (Nat.mul_le_mul_left V2 (Nat.pow_le_pow_right (by decide) (show mn ≤ left by omega))) ?_
        rw [hV2]; exact Nat.lt_of_le_of_lt (tw2_a V k) hR
      refine lv_aload_n hx hb d_Na_timesTwoTo_6 rfl (lv_at hl 0 rfl) ?_
      refine lv_iconst (v := iI 1) hx hb d_Na_timesTwoTo_7 rfl ?_
      refine lv_iload_n hx hb d_Na_timesTwoTo_8 rfl (lv_at hl 2 rfl) ?_
      refine lv_bipush (v := iI 29) hx hb d_Na_timesTwoTo_9 (by decide +kernel) ?_
      refine ed_min hx hb (hml.trans hl.1.symm) hown (hts _ (List.mem_cons_of_mem _ tw_83)) (hts _ (List.mem_cons_of_mem _ tw_84)) (hts _ (List.mem_cons_of_mem _ tw_6)) (hts _ (List.mem_cons_of_mem _ tw_85)) (Nat.le_of_ble_eq_true rfl) (Nat.le_of_ble_eq_true rfl) (Nat.le_of_ble_eq_true rfl) (Nat.le_of_ble_eq_true rfl) (by omega) (by omega) d_Na_timesTwoTo_11 ?_
      refine ed_tz (y := (mn : Int)) (by omega) ?_
      refine ed_pc (pc' := 14) rfl ?_
      refine lv_ishl hx hb d_Na_timesTwoTo_14 ?_
      refine ed_ti (y := (iI (((2 ^ mn : Nat) : Int)))) (by rw [iI_nat, iI_nat]; exact shl1 mn (by omega)) ?_
      have hok2 := hok
      refine c_fv (wc := [(q, .inr (0, [.ref pa, .int (iI ((s2 : Int)))])), (pa, .inl (cI, 306, .inl g))]) (wr := []) (va_runV (C := "ExactDigits$Natural") (As := [.int (iI (((2 ^ mn : Nat) : Int)))]) (rest := []) ⟨hx, hb, hml, hown, hts⟩ (c_Na_times l D cB cI cJ t5 ad q pa g s2 V2 (2 ^ mn) hok (⟨hpp, by omega⟩) (hrm) H.size) (cwV 1 hts (gV tw_122 tw_124 ts_3 tw_2 tw_125) rfl rfl rfl (by decide +kernel) ⟨Nat.le_of_ble_eq_true rfl, Nat.le_of_ble_eq_true rfl⟩) ⟨c_blind (eX_X t5 ad), va_recv (ci := 0) (q0 := 0) hK hP rfl rfl, fun U hU hW => c_pre (wc := [(q, .inr (0, [.ref pa, .int (iI ((s2 : Int)))])), (pa, .inl (cI, 306, .inl g))]) (eX_X t5 ad) hE hK hP hD hS hA [0, 1] rfl (by decide) U hU hW⟩ rfl rfl hl.1 rfl (lv_room (Nat.le_of_ble_eq_true rfl)) d_Na_timesTwoTo_15 ⟨Nat.le_of_ble_eq_true rfl, Nat.le_of_ble_eq_true rfl⟩) hP hD hS hA [0, 1] [] rfl rfl (by decide) (by decide) (fun u H locs hp hP hD hS => ?_)
      obtain ⟨f3, s3, rfl, hok3⟩ := hp
      have hP : va_P D ecl [(q, .inr (0, [.ref pa, .int (iI ((s3 : Int)))])), (pa, .inl (cI, 306, .inl f3))] H := hP
      have hD : va_D A [(q, .inr (0, [.ref pa, .int (iI ((s3 : Int)))])), (pa, .inl (cI, 306, .inl f3))] := hD
      refine lv_iinc (k := 2) (v := iI (zl + (-29))) hx hb d_Na_timesTwoTo_18 hl rfl (iI_add _ _) (by decide) rfl (fun ls hl => ?_)
      have hl : lv_has ls 3 [(2, .int (iI (zl + (-29)))), (0, .ref q), (1, .int (iI (k)))] := hl
      refine lv_goto (tgt := 2) hx hb d_Na_timesTwoTo_21 rfl ?_
      have hl := lv_sub hl [1, 2, 0] rfl
      exact ih _ (by omega) (left - mn) (f3) (s3) (V2 * 2 ^ mn) _ _ ls H locs rfl (by omega) (by omega) (by omega) (rfl) (hok3) (by rw [← hV2, Nat.mul_assoc, ← Nat.pow_add]; congr 2; omega) hl hP hD hS
  refine lv_iload_n hx hb d_Na_timesTwoTo_0 rfl (lv_at hl 1 rfl) ?_
  refine lv_istore_n hx hb d_Na_timesTwoTo_1 rfl hl (by decide) rfl (fun ls hl => ?_)
  have hl : lv_has ls 3 [(2, .int (iI (k))), (0, .ref q), (1, .int (iI (k)))] := hl
  have hl := lv_sub hl [1, 2, 0] rfl
  exact L2 _ (k.toNat) (f) (sz) (V) _ _ ls s.heap [] rfl (by omega) (by omega) (by omega) (rfl) (hV) (rfl) hl hP hD hS
