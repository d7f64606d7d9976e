set_option maxHeartbeats 4000000 in
set_option maxRecDepth 100000 in
theorem c_De_clear (l : Launch) (D : va_G) (cB cI cJ : ClassId) (t5 : Nat) (ad : Nat → Nat) (dc dw fr to : Nat) (f : Nat → Int32) (hz : dz_ok f fr to) : c_V l m_De_clear (Cond.code m_De_clear b_De_clear 2 none :: gw) (rm_ 0 0) (eX t5 ad) D ecl (tyS cB cI cJ) [.ref dc] [(dc, .inr (2, [.ref dw, .int (iI ((fr : Int))), .int (iI ((to : Int)))])), (dw, .inl (cI, 465, .inl f))] (fun u => ∃ f' : Nat → Int32, (∀ k, k < 465 → f' k = iI 0) ∧ u = [(dc, .inr (2, [.ref dw, .int (iI (45)), .int (iI (45))])), (dw, .inl (cI, 465, .inl f'))]) 0 0 := by
  intro sz0
  refine Met.ofW (cc := b_De_clear) (maxL := 2) (ret := none) (by decide) rfl ?_
  intro p e s m args below meth c s₁ B hml hv
  obtain ⟨rfl, hsz, hP, hK, hD0, hE⟩ := hv
  have hx := B.exec
  have hb := B.bytes
  have hr := B.returns
  have hts := atoms_spec (ws := Cond.code m_De_clear b_De_clear 2 none :: gw) B.pre
  have hown : s.vm.findClass R_De = some m.cls := findClass_of_methodNamed B.named
  have hlocks := B.notSynchronized
  subst hsz
  have hD := hD0.self (sz := s.heap.size)
  generalize hAe : va_A [(dc, .inr (2, [.ref dw, .int (iI ((fr : Int))), .int (iI ((to : Int)))])), (dw, .inl (cI, 465, .inl f))] s.heap.size = A at hD hE ⊢
  have hA : ∀ q : Nat, s.heap.size ≤ q → A q := fun q h => by rw [← hAe]; exact Or.inr h
  have hS : va_S A s.heap s.heap [] := va_S.rf
  have hl := lv_entry ([.ref dc]) (n := 2) (Nat.le_of_ble_eq_true rfl)
  rw [lg_entry_eq]
  generalize (lg_sl ([.ref dc]) ++ List.replicate (2 - (lg_sl ([.ref dc])).length) Slot.unset).toArray = ls at hl ⊢
  have hl : lv_has ls 2 [(0, .ref dc)] := hl
  obtain ⟨hz1, hz2, hz3⟩ := hz
  have L5 : ∀ (n9 : Nat) (j : Nat) (h : Nat → Int32) (zj : Int) (ls : Array Slot) (H : Heap) (locs : List Loc), to - j = n9 → (zj = (j : Int)) → (j ≤ to) → (∀ k, k < 465 → (k < j ∨ to ≤ k) → h k = iI 0) → lv_has ls 2 [(0, .ref dc), (1, .int (iI (zj)))] → va_P D ecl [(dc, .inr (2, [.ref dw, .int (iI ((fr : Int))), .int (iI ((to : Int)))])), (dw, .inl (cI, 465, .inl h))] H → va_D A [(dc, .inr (2, [.ref dw, .int (iI ((fr : Int))), .int (iI ((to : Int)))])), (dw, .inl (cI, 465, .inl h))] → va_S A s.heap H locs → W p l e (headSpec (Cond.code m_De_clear b_De_clear 2 none :: gw) (rm_ 0 0)).room s m ([.ref dc] : List Value).toArray below meth c H locs 0 0 (MQ below (va_Qv (fun u => ∃ f' : Nat → Int32, (∀ k, k < 465 → f' k = iI 0) ∧ u = [(dc, .inr (2, [.ref dw, .int (iI (45)), .int (iI (45))])), (dw, .inl (cI, 465, .inl f'))]) (c_B D ecl A) A) ([.ref dc] : List Value).toArray s 0 0 A) (F0 m 5 ls []) := by
    intro n9
    induction n9 using Nat.strongRecOn with
    | ind n9 ih =>
    intro j h zj ls H locs hn9 hj hj2 hh hl hP hD hS
    refine lv_iload_n hx hb d_De_clear_5 rfl (lv_at hl 1 rfl) ?_
    refine lv_aload_n hx hb d_De_clear_6 rfl (lv_at hl 0 rfl) ?_
    refine va_get (D := D) (ci := 2) (v := .int (iI ((to : Int)))) (C := R_De) (T := T_De) (N := 3) hx hb hts (fun w h => List.mem_cons_of_mem _ (in_De w h)) hown hK hP 0 rfl rfl 2 (by decide) (hts _ (List.mem_cons_of_mem _ tw_382)) (fun _ h9 => h9) rfl d_De_clear_7 ?_
    refine ed_icmp_ge (tgt := 26) hx hb d_De_clear_10 rfl (by omega) (by omega) (fun h_1 => ?_) (fun h_1 => ?_)
    · skip
      refine ed_pc (pc' := 26) rfl ?_
      refine lv_aload_n hx hb d_De_clear_26 rfl (lv_at hl 0 rfl) ?_
      refine lv_bipush (v := iI 45) hx hb d_De_clear_27 (by decide +kernel) ?_
      refine va_put (D := D) (ci := 2) (v := .int (iI (45))) (ty := .int) (C := R_De) (T := T_De) (N := 3) hx hb hts (fun w h => List.mem_cons_of_mem _ (in_De w h)) y_De t_De n_De hown hK hP hD hS 0 rfl rfl 1 (by decide) (hts _ (List.mem_cons_of_mem _ tw_380)) (fun _ h9 => h9) rfl (by decide +kernel) rfl rfl (Nat.le_of_ble_eq_true rfl) d_De_clear_29 (fun H locs hP hD hS => ?_)
      have hP : va_P D ecl [(dc, .inr (2, [.ref dw, .int (iI (45)), .int (iI ((to : Int)))])), (dw, .inl (cI, 465, .inl h))] H := hP
      have hD : va_D A [(dc, .inr (2, [.ref dw, .int (iI (45)), .int (iI ((to : Int)))])), (dw, .inl (cI, 465, .inl h))] := hD
      refine ed_pc (pc' := 32) rfl ?_
      refine lv_aload_n hx hb d_De_clear_32 rfl (lv_at hl 0 rfl) ?_
      refine lv_bipush (v := iI 45) hx hb d_De_clear_33 (by decide +kernel) ?_
      refine va_put (D := D) (ci := 2) (v := .int (iI (45))) (ty := .int) (C := R_De) (T := T_De) (N := 3) hx hb hts (fun w h => List.mem_cons_of_mem _ (in_De w h)) y_De t_De n_De hown hK hP hD hS 0 rfl rfl 2 (by decide) (hts _ (List.mem_cons_of_mem _ tw_382)) (fun _ h9 => h9) rfl (by decide +kernel) rfl rfl (Nat.le_of_ble_eq_true rfl) d_De_clear_35 (fun H locs hP hD hS => ?_)
      have hP : va_P D ecl [(dc, .inr (2, [.ref dw, .int (iI (45)), .int (iI (45))])), (dw, .inl (cI, 465, .inl h))] H := hP
      have hD : va_D A [(dc, .inr (2, [.ref dw, .int (iI (45)), .int (iI (45))])), (dw, .inl (cI, 465, .inl h))] := hD
      exact W.vret hx hb hr (fun t9 ht9 hW9 => ⟨⟨[(dc, .inr (2, [.ref dw, .int (iI (45)), .int (iI (45))])), (dw, .inl (cI, 465, .inl h))], rfl, ⟨h, fun k hk => hh k hk (by omega), rfl⟩, by rw [ht9]; exact hP, hD⟩, hS.F ht9⟩) hS.2.2 d_De_clear_38
    · skip
      refine ed_pc (pc' := 13) rfl ?_
      refine lv_aload_n hx hb d_De_clear_13 rfl (lv_at hl 0 rfl) ?_
      refine va_get (D := D) (ci := 2) (v := .ref dw) (C := R_De) (T := T_De) (N := 3) hx hb hts (fun w h => List.mem_cons_of_mem _ (in_De w h)) hown hK hP 0 rfl rfl 0 (by decide) (hts _ (List.mem_cons_of_mem _ tw_378)) (fun _ h9 => h9) rfl d_De_clear_14 ?_
      refine lv_iload_n hx hb d_De_clear_17 rfl (lv_at hl 1 rfl) ?_
      refine ed_pc (pc' := 18) rfl ?_
      refine lv_iconst (v := iI 0) hx hb d_De_clear_18 rfl ?_
      refine ed_iast hx hb hK hP hD hS 1 1 rfl rfl (j) (by omega) (by omega) (by decide) d_De_clear_19 (fun H locs hP hD hS => ?_)
      have hP : va_P D ecl [(dc, .inr (2, [.ref dw, .int (iI ((fr : Int))), .int (iI ((to : Int)))])), (dw, .inl (cI, 465, .inl (upd h (j) ((iI (0))))))] H := hP
      have hD : va_D A [(dc, .inr (2, [.ref dw, .int (iI ((fr : Int))), .int (iI ((to : Int)))])), (dw, .inl (cI, 465, .inl (upd h (j) ((iI (0))))))] := hD
      refine lv_iinc (k := 1) (v := iI (zj + 1)) hx hb d_De_clear_20 hl rfl (iI_add _ _) (by decide) rfl (fun ls hl => ?_)
      have hl : lv_has ls 2 [(1, .int (iI (zj + 1))), (0, .ref dc)] := hl
      refine lv_goto (tgt := 5) hx hb d_De_clear_23 rfl ?_
      have hl := lv_sub hl [1, 0] rfl
      exact ih _ (by omega) (j + 1) (upd h j (iI 0)) _ ls H locs rfl (by omega) (by omega) (fun k hk hk2 => by by_cases q : k = j; rw [q, pk_us]; rw [pk_un q]; exact hh k hk (by omega)) hl hP hD hS
  refine lv_aload_n hx hb d_De_clear_0 rfl (lv_at hl 0 rfl) ?_
  refine va_get (D := D) (ci := 2) (v := .int (iI ((fr : Int)))) (C := R_De) (T := T_De) (N := 3) hx hb hts (fun w h => List.mem_cons_of_mem _ (in_De w h)) hown hK hP 0 rfl rfl 1 (by decide) (hts _ (List.mem_cons_of_mem _ tw_380)) (fun _ h9 => h9) rfl d_De_clear_1 ?_
  refine lv_istore_n hx hb d_De_clear_4 rfl hl (by decide) rfl (fun ls hl => ?_)
  have hl : lv_has ls 2 [(1, .int (iI ((fr : Int)))), (0, .ref dc)] := hl
  have hl := lv_sub hl [1, 0] rfl
  exact L5 _ (fr) (f) _ ls s.heap [] rfl (rfl) (by omega) (hz3) hl hP hD hS
set_option maxHeartbeats 4000000 in
set_option maxRecDepth 100000 in
theorem c_De_add (l : Launch) (D : va_G) (cB cI cJ : ClassId) (t5 : Nat) (ad : Nat → Nat) (dc dw fr to : Nat) (f : Nat → Int32) (T dg Pn : Nat) (pz : Int) (hdg : 0 < dg ∧ dg ≤ 9) (hPn : pz + 3780 = (Pn : Int)) (hpz : -1700 ≤ pz ∧ pz ≤ 400) (hT : T % 10 ^ (Pn + 1) = 0) (hst : (T = 0 ∧ fr = 45 ∧ to = 45 ∧ ∀ k, k < 465 → f k = iI 0) ∨ (0 < T ∧ de_ok f fr to T)) : c_V l m_De_add (Cond.code m_De_add b_De_add 7 none :: gw) (rm_ 1 21) (eX t5 ad) D ecl (tyS cB cI cJ) [.ref dc, .int (iI ((dg : Int))), .int (iI (pz))] [(dc, .inr (2, [.ref dw, .int (iI ((fr : Int))), .int (iI ((to : Int)))])), (dw, .inl (cI, 465, .inl f))] (fun u => ∃ (f' : Nat → Int32) (fr' to' : Nat), de_ok f' fr' to' (T + dg * 10 ^ Pn) ∧ u = [(dc, .inr (2, [.ref dw, .int (iI ((fr' : Int))), .int (iI ((to' : Int)))])), (dw, .inl (cI, 465, .inl f'))]) 0 0 := by
  intro sz0
  refine Met.ofW (cc := b_De_add) (maxL := 7) (ret := none) (by decide) rfl ?_
  intro p e s m args below meth c s₁ B hml hv
  obtain ⟨rfl, hsz, hP, hK, hD0, hE⟩ := hv
  have hx := B.exec
  have hb := B.bytes
  have hr := B.returns
  have hts := atoms_spec (ws := Cond.code m_De_add b_De_add 7 none :: gw) B.pre
  have hown : s.vm.findClass R_De = some m.cls := findClass_of_methodNamed B.named
  have hlocks := B.notSynchronized
  subst hsz
  have hD := hD0.self (sz := s.heap.size)
  generalize hAe : va_A [(dc, .inr (2, [.ref dw, .int (iI ((fr : Int))), .int (iI ((to : Int)))])), (dw, .inl (cI, 465, .inl f))] s.heap.size = A at hD hE ⊢
  have hA : ∀ q : Nat, s.heap.size ≤ q → A q := fun q h => by rw [← hAe]; exact Or.inr h
  have hS : va_S A s.heap s.heap [] := va_S.rf
  have hl := lv_entry ([.ref dc, .int (iI ((dg : Int))), .int (iI (pz))]) (n := 7) (Nat.le_of_ble_eq_true rfl)
  rw [lg_entry_eq]
  generalize (lg_sl ([.ref dc, .int (iI ((dg : Int))), .int (iI (pz))]) ++ List.replicate (7 - (lg_sl ([.ref dc, .int (iI ((dg : Int))), .int (iI (pz))])).length) Slot.unset).toArray = ls at hl ⊢
  have hl : lv_has ls 7 [(0, .ref dc), (1, .int (iI ((dg : Int)))), (2, .int (iI (pz)))] := hl
  obtain ⟨j, hj⟩ : ∃ j : Nat, j = Pn / 9 := ⟨_, rfl⟩
  obtain ⟨i, hi⟩ : ∃ i : Nat, i = Pn % 9 := ⟨_, rfl⟩
  have hPj : Pn = 9 * j + i := by omega
  have hi8 : i ≤ 8 := by omega
  have hjb : 231 ≤ j ∧ j ≤ 464 := by omega
  have hwf : wa_ok f T := by
    rcases hst with ⟨q1, -, -, q2⟩ | ⟨-, q⟩
    · intro k hk; rw [q2 k hk, q1]; unfold wq; rw [Nat.zero_div]; rfl
    · exact q.2.2.2.2.2
  have hfrto : fr ≤ to ∧ to ≤ 400 := by
    rcases hst with ⟨-, q1, q2, -⟩ | ⟨-, q1, q2, -⟩ <;> omega
  have L54 : ∀ (n9 : Nat) (t : Nat) (vv : Nat) (zt : Int) (zv : Int) (zk : Int) (zi : Int) (ls : Array Slot) (H : Heap) (locs : List Loc), i - t = n9 → (zt = (t : Int)) → (zv = (vv : Int)) → (vv = dg * 10 ^ t) → (zk = 464 - (j : Int)) → (zi = (i : Int)) → (t ≤ i) → lv_has ls 7 [(0, .ref dc), (3, .int (iI (zk))), (4, .int (iI (zi))), (5, .int (iI (zv))), (6, .int (iI (zt)))] → va_P D ecl [(dc, .inr (2, [.ref dw, .int (iI ((fr : Int))), .int (iI ((to : Int)))])), (dw, .inl (cI, 465, .inl f))] H → va_D A [(dc, .inr (2, [.ref dw, .int (iI ((fr : Int))), .int (iI ((to : Int)))])), (dw, .inl (cI, 465, .inl f))] → va_S A s.heap H locs → W p l e (headSpec (Cond.code m_De_add b_De_add 7 none :: gw) (rm_ 1 21)).room s m ([.ref dc, .int (iI ((dg : Int))), .int (iI (pz))] : List Value).toArray below meth c H locs 0 0 (MQ below (va_Qv (fun u => ∃ (f' : Nat → Int32) (fr' to' : Nat), de_ok f' fr' to' (T + dg * 10 ^ Pn) ∧ u = [(dc, .inr (2, [.ref dw, .int (iI ((fr' : Int))), .int (iI ((to' : Int)))])), (dw, .inl (cI, 465, .inl f'))]) (c_B D ecl A) A) ([.ref dc, .int (iI ((dg : Int))), .int (iI (pz))] : List Value).toArray s 0 0 A) (F0 m 54 ls []) := by
    intro n9
    induction n9 using Nat.strongRecOn with
    | ind n9 ih =>
    intro t vv zt zv zk zi ls H locs hn9 hzt hzv hvv hzk hzi ht hl hP hD hS
    refine lv_iload hx hb d_De_add_54 (lv_at hl 4 rfl) ?_
    refine lv_iload hx hb d_De_add_56 (lv_at hl 2 rfl) ?_
    refine ed_icmp_ge (tgt := 74) hx hb d_De_add_58 rfl (by omega) (by omega) (fun h_1 => ?_) (fun h_1 => ?_)
    · skip
      refine ed_pc (pc' := 74) rfl ?_
      have hti : t = i := by omega
      rw [hti] at hvv
      obtain ⟨w0, hw0⟩ : ∃ w0 : Nat, w0 = wq T (464 - j) := ⟨_, rfl⟩
      have hww : wq (T + dg * 10 ^ Pn) (464 - j) = w0 + vv := by
        rw [hw0, hvv]; unfold wq; rw [show 464 - (464 - j) = j by omega]; exact ad_w hPj hi8 hdg.2 hT
      have hwn : ∀ k, k < 465 → ¬ k = 464 - j → wq (T + dg * 10 ^ Pn) k = wq T k := fun k hk hn => by unfold wq; exact ad_n hPj hi8 hdg.2 hT (by omega)
      have hwa : wa_ok (upd f (464 - j) (iI ((w0 + vv : Nat) : Int))) (T + dg * 10 ^ Pn) := by
        intro k hk
        by_cases q : k = 464 - j
        · rw [q, pk_us, hww]
        · rw [pk_un q, hwf k hk, hwn k hk q]
      obtain ⟨hB1, hB2⟩ := p10_B hPj hi8 hdg
      refine lv_aload_n hx hb d_De_add_74 rfl (lv_at hl 0 rfl) ?_
      refine va_get (D := D) (ci := 2) (v := .ref dw) (C := R_De) (T := T_De) (N := 3) hx hb hts (fun w h => List.mem_cons_of_mem _ (in_De w h)) hown hK hP 0 rfl rfl 0 (by decide) (hts _ (List.mem_cons_of_mem _ tw_378)) (fun _ h9 => h9) rfl d_De_add_75 ?_
      refine lv_iload_n hx hb d_De_add_78 rfl (lv_at hl 1 rfl) ?_
      refine lv_dup2_11 hx hb d_De_add_79 rfl rfl ?_
      refine ed_pc (pc' := 80) rfl ?_
      refine ed_iald (y := (w0 : Int)) hx hb hK hP 1 1 rfl rfl (464 - j) (by omega) (by omega) (by decide) (by rw [hw0]; exact hwf _ (by omega)) d_De_add_80 ?_
      refine lv_iload hx hb d_De_add_81 (lv_at hl 3 rfl) ?_
      refine ed_iadd hx hb d_De_add_83 ?_
      refine ed_tz (y := ((w0 + vv : Nat) : Int)) (by omega) ?_
      refine ed_iast hx hb hK hP hD hS 1 1 rfl rfl (464 - j) (by omega) (by omega) (by decide) d_De_add_84 (fun H locs hP hD hS => ?_)
      have hP : va_P D ecl [(dc, .inr (2, [.ref dw, .int (iI ((fr : Int))), .int (iI ((to : Int)))])), (dw, .inl (cI, 465, .inl (upd f (464 - j) ((iI (((w0 + vv : Nat) : Int)))))))] H := hP
      have hD : va_D A [(dc, .inr (2, [.ref dw, .int (iI ((fr : Int))), .int (iI ((to : Int)))])), (dw, .inl (cI, 465, .inl (upd f (464 - j) ((iI (((w0 + vv : Nat) : Int)))))))] := hD
      refine lv_aload_n hx hb d_De_add_85 rfl (lv_at hl 0 rfl) ?_
      refine va_get (D := D) (ci := 2) (v := .int (iI ((fr : Int)))) (C := R_De) (T := T_De) (N := 3) hx hb hts (fun w h => List.mem_cons_of_mem _ (in_De w h)) hown hK hP 0 rfl rfl 1 (by decide) (hts _ (List.mem_cons_of_mem _ tw_380)) (fun _ h9 => h9) rfl d_De_add_86 ?_
      refine lv_aload_n hx hb d_De_add_89 rfl (lv_at hl 0 rfl) ?_
      refine va_get (D := D) (ci := 2) (v := .int (iI ((to : Int)))) (C := R_De) (T := T_De) (N := 3) hx hb hts (fun w h => List.mem_cons_of_mem _ (in_De w h)) hown hK hP 0 rfl rfl 2 (by decide) (hts _ (List.mem_cons_of_mem _ tw_382)) (fun _ h9 => h9) rfl d_De_add_90 ?_
      refine ed_pc (pc' := 93) rfl ?_
      refine ed_icmp_ne (tgt := 108) hx hb d_De_add_93 rfl (by omega) (by omega) (fun h_2 => ?_) (fun h_2 => ?_)
      · skip
        refine ed_pc (pc' := 108) rfl ?_
        refine lv_aload_n hx hb d_De_add_108 rfl (lv_at hl 0 rfl) ?_
        refine lv_aload_n hx hb d_De_add_109 rfl (lv_at hl 0 rfl) ?_
        refine va_get (D := D) (ci := 2) (v := .int (iI ((fr : Int)))) (C := R_De) (T := T_De) (N := 3) hx hb hts (fun w h => List.mem_cons_of_mem _ (in_De w h)) hown hK hP 0 rfl rfl 1 (by decide) (hts _ (List.mem_cons_of_mem _ tw_380)) (fun _ h9 => h9) rfl d_De_add_110 ?_
        refine lv_iload_n hx hb d_De_add_113 rfl (lv_at hl 1 rfl) ?_
        refine ed_min hx hb (hml.trans hl.1.symm) hown (hts _ (List.mem_cons_of_mem _ tw_545)) (hts _ (List.mem_cons_of_mem _ tw_84)) (hts _ (List.mem_cons_of_mem _ tw_6)) (hts _ (List.mem_cons_of_mem _ tw_85)) (Nat.le_of_ble_eq_true rfl) (Nat.le_of_ble_eq_true rfl) (Nat.le_of_ble_eq_true rfl) (Nat.le_of_ble_eq_true rfl) (by omega) (by omega) d_De_add_114 ?_
        refine va_put (D := D) (ci := 2) (v := .int (iI (min ((fr : Int)) (zk)))) (ty := .int) (C := R_De) (T := T_De) (N := 3) hx hb hts (fun w h => List.mem_cons_of_mem _ (in_De w h)) y_De t_De n_De hown hK hP hD hS 0 rfl rfl 1 (by decide) (hts _ (List.mem_cons_of_mem _ tw_380)) (fun _ h9 => h9) rfl (by decide +kernel) rfl rfl (Nat.le_of_ble_eq_true rfl) d_De_add_117 (fun H locs hP hD hS => ?_)
        have hP : va_P D ecl [(dc, .inr (2, [.ref dw, .int (iI (min ((fr : Int)) (zk))), .int (iI ((to : Int)))])), (dw, .inl (cI, 465, .inl (upd f (464 - j) ((iI (((w0 + vv : Nat) : Int)))))))] H := hP
        have hD : va_D A [(dc, .inr (2, [.ref dw, .int (iI (min ((fr : Int)) (zk))), .int (iI ((to : Int)))])), (dw, .inl (cI, 465, .inl (upd f (464 - j) ((iI (((w0 + vv : Nat) : Int)))))))] := hD
        refine lv_aload_n hx hb d_De_add_120 rfl (lv_at hl 0 rfl) ?_
        refine ed_pc (pc' := 121) rfl ?_
        refine lv_aload_n hx hb d_De_add_121 rfl (lv_at hl 0 rfl) ?_
        refine va_get (D := D) (ci := 2) (v := .int (iI ((to : Int)))) (C := R_De) (T := T_De) (N := 3) hx hb hts (fun w h => List.mem_cons_of_mem _ (in_De w h)) hown hK hP 0 rfl rfl 2 (by decide) (hts _ (List.mem_cons_of_mem _ tw_382)) (fun _ h9 => h9) rfl d_De_add_122 ?_
        refine lv_iload_n hx hb d_De_add_125 rfl (lv_at hl 1 rfl) ?_
        refine lv_iconst (v := iI 1) hx hb d_De_add_126 rfl ?_
        refine ed_iadd hx hb d_De_add_127 ?_
        refine ed_max hx hb (hml.trans hl.1.symm) hown (hts _ (List.mem_cons_of_mem _ tw_546)) (hts _ (List.mem_cons_of_mem _ tw_146)) (hts _ (List.mem_cons_of_mem _ tw_6)) (hts _ (List.mem_cons_of_mem _ tw_147)) (Nat.le_of_ble_eq_true rfl) (Nat.le_of_ble_eq_true rfl) (Nat.le_of_ble_eq_true rfl) (Nat.le_of_ble_eq_true rfl) (by omega) (by omega) d_De_add_128 ?_
        refine va_put (D := D) (ci := 2) (v := .int (iI (max ((to : Int)) ((zk) + (1))))) (ty := .int) (C := R_De) (T := T_De) (N := 3) hx hb hts (fun w h => List.mem_cons_of_mem _ (in_De w h)) y_De t_De n_De hown hK hP hD hS 0 rfl rfl 2 (by decide) (hts _ (List.mem_cons_of_mem _ tw_382)) (fun _ h9 => h9) rfl (by decide +kernel) rfl rfl (Nat.le_of_ble_eq_true rfl) d_De_add_131 (fun H locs hP hD hS => ?_)
        have hP : va_P D ecl [(dc, .inr (2, [.ref dw, .int (iI (min ((fr : Int)) (zk))), .int (iI (max ((to : Int)) ((zk) + (1))))])), (dw, .inl (cI, 465, .inl (upd f (464 - j) ((iI (((w0 + vv : Nat) : Int)))))))] H := hP
        have hD : va_D A [(dc, .inr (2, [.ref dw, .int (iI (min ((fr : Int)) (zk))), .int (iI (max ((to : Int)) ((zk) + (1))))])), (dw, .inl (cI, 465, .inl (upd f (464 - j) ((iI (((w0 + vv : Nat) : Int)))))))] := hD
        have hTp : 0 < T ∧ de_ok f fr to T := by rcases hst with ⟨-, q1, q2, -⟩ | q; omega; exact q
        obtain ⟨hTp, h1, h2, h3, h4, h5, -⟩ := hTp
        have hfk : fr ≤ 464 - j := by
          rcases Nat.lt_or_ge (464 - j) fr with z | z
          · exfalso
            have q1 : T < 1000000000 ^ j := Nat.lt_of_lt_of_le h4 (pB_le (by omega))
            have q2 : 1000000000 ^ j ≤ 10 ^ (Pn + 1) := by rw [pB_10]; exact p10_le (by omega)
            rw [Nat.mod_eq_of_lt (by omega)] at hT; omega
          · exact z
        have hde : de_ok (upd f (464 - j) (iI ((w0 + vv : Nat) : Int))) fr (max to (464 - j + 1)) (T + dg * 10 ^ Pn) := by
          refine ⟨by omega, by omega, by omega, ad_up hdg.2 hT (by omega) h4, ?_, hwa⟩
          exact ad_m (pB_dvd (by omega) h5) (by omega)
        exact W.vret hx hb hr (fun t9 ht9 hW9 => ⟨⟨[(dc, .inr (2, [.ref dw, .int (iI (min ((fr : Int)) (zk))), .int (iI (max ((to : Int)) ((zk) + (1))))])), (dw, .inl (cI, 465, .inl (upd f (464 - j) ((iI (((w0 + vv : Nat) : Int)))))))], rfl, ⟨_, fr, max to (464 - j + 1), hde, by rw [show min ((fr : Int)) (zk) = (((fr : Nat)) : Int) by omega, show max ((to : Int)) ((zk) + (1)) = (((max to (464 - j + 1) : Nat)) : Int) by omega]⟩, by rw [ht9]; exact hP, hD⟩, hS.F ht9⟩) hS.2.2 d_De_add_134
      · skip
        refine ed_pc (pc' := 96) rfl ?_
        have hT0 : T = 0 ∧ fr = 45 ∧ to = 45 := by rcases hst with ⟨q1, q2, q3, -⟩ | ⟨-, q1, -⟩; exact ⟨q1, q2, q3⟩; omega
        refine lv_aload_n hx hb d_De_add_96 rfl (lv_at hl 0 rfl) ?_
        refine lv_iload_n hx hb d_De_add_97 rfl (lv_at hl 1 rfl) ?_
        refine va_put (D := D) (ci := 2) (v := .int (iI (zk))) (ty := .int) (C := R_De) (T := T_De) (N := 3) hx hb hts (fun w h => List.mem_cons_of_mem _ (in_De w h)) y_De t_De n_De hown hK hP hD hS 0 rfl rfl 1 (by decide) (hts _ (List.mem_cons_of_mem _ tw_380)) (fun _ h9 => h9) rfl (by decide +kernel) rfl rfl (Nat.le_of_ble_eq_true rfl) d_De_add_98 (fun H locs hP hD hS => ?_)
        have hP : va_P D ecl [(dc, .inr (2, [.ref dw, .int (iI (zk)), .int (iI ((to : Int)))])), (dw, .inl (cI, 465, .inl (upd f (464 - j) ((iI (((w0 + vv : Nat) : Int)))))))] H := hP
        have hD : va_D A [(dc, .inr (2, [.ref dw, .int (iI (zk)), .int (iI ((to : Int)))])), (dw, .inl (cI, 465, .inl (upd f (464 - j) ((iI (((w0 + vv : Nat) : Int)))))))] := hD
        refine lv_aload_n hx hb d_De_add_101 rfl (lv_at hl 0 rfl) ?_
        refine lv_iload_n hx hb d_De_add_102 rfl (lv_at hl 1 rfl) ?_
        refine lv_iconst (v := iI 1) hx hb d_De_add_103 rfl ?_
        refine ed_iadd hx hb d_De_add_104 ?_
        refine ed_pc (pc' := 105) rfl ?_
        refine va_put (D := D) (ci := 2) (v := .int (iI ((zk) + (1)))) (ty := .int) (C := R_De) (T := T_De) (N := 3) hx hb hts (fun w h => List.mem_cons_of_mem _ (in_De w h)) y_De t_De n_De hown hK hP hD hS 0 rfl rfl 2 (by decide) (hts _ (List.mem_cons_of_mem _ tw_382)) (fun _ h9 => h9) rfl (by decide +kernel) rfl rfl (Nat.le_of_ble_eq_true rfl) d_De_add_105 (fun H locs hP hD hS => ?_)
        have hP : va_P D ecl [(dc, .inr (2, [.ref dw, .int (iI (zk)), .int (iI ((zk) + (1)))])), (dw, .inl (cI, 465, .inl (upd f (464 - j) ((iI (((w0 + vv : Nat) : Int)))))))] H := hP
        have hD : va_D A [(dc, .inr (2, [.ref dw, .int (iI (zk)), .int (iI ((zk) + (1)))])), (dw, .inl (cI, 465, .inl (upd f (464 - j) ((iI (((w0 + vv : Nat) : Int)))))))] := hD
        refine lv_aload_n hx hb d_De_add_108 rfl (lv_at hl 0 rfl) ?_
        refine lv_aload_n hx hb d_De_add_109 rfl (lv_at hl 0 rfl) ?_
        refine va_get (D := D) (ci := 2) (v := .int (iI (zk))) (C := R_De) (T := T_De) (N := 3) hx hb hts (fun w h => List.mem_cons_of_mem _ (in_De w h)) hown hK hP 0 rfl rfl 1 (by decide) (hts _ (List.mem_cons_of_mem _ tw_380)) (fun _ h9 => h9) rfl d_De_add_110 ?_
        refine lv_iload_n hx hb d_De_add_113 rfl (lv_at hl 1 rfl) ?_
        refine ed_min hx hb (hml.trans hl.1.symm) hown (hts _ (List.mem_cons_of_mem _ tw_545)) (hts _ (List.mem_cons_of_mem _ tw_84)) (hts _ (List.mem_cons_of_mem _ tw_6)) (hts _ (List.mem_cons_of_mem _ tw_85)) (Nat.le_of_ble_eq_true rfl) (Nat.le_of_ble_eq_true rfl) (Nat.le_of_ble_eq_true rfl) (Nat.le_of_ble_eq_true rfl) (by omega) (by omega) d_De_add_114 ?_
        refine va_put (D := D) (ci := 2) (v := .int (iI (min (zk) (zk)))) (ty := .int) (C := R_De) (T := T_De) (N := 3) hx hb hts (fun w h => List.mem_cons_of_mem _ (in_De w h)) y_De t_De n_De hown hK hP hD hS 0 rfl rfl 1 (by decide) (hts _ (List.mem_cons_of_mem _ tw_380)) (fun _ h9 => h9) rfl (by decide +kernel) rfl rfl (Nat.le_of_ble_eq_true rfl) d_De_add_117 (fun H locs hP hD hS => ?_)
        have hP : va_P D ecl [(dc, .inr (2, [.ref dw, .int (iI (min (zk) (zk))), .int (iI ((zk) + (1)))])), (dw, .inl (cI, 465, .inl (upd f (464 - j) ((iI (((w0 + vv : Nat) : Int)))))))] H := hP
        have hD : va_D A [(dc, .inr (2, [.ref dw, .int (iI (min (zk) (zk))), .int (iI ((zk) + (1)))])), (dw, .inl (cI, 465, .inl (upd f (464 - j) ((iI (((w0 + vv : Nat) : Int)))))))] := hD
        refine lv_aload_n hx hb d_De_add_120 rfl (lv_at hl 0 rfl) ?_
        refine ed_pc (pc' := 121) rfl ?_
        refine lv_aload_n hx hb d_De_add_121 rfl (lv_at hl 0 rfl) ?_
        refine va_get (D := D) (ci := 2) (v := .int (iI ((zk) + (1)))) (C := R_De) (T := T_De) (N := 3) hx hb hts (fun w h => List.mem_cons_of_mem _ (in_De w h)) hown hK hP 0 rfl rfl 2 (by decide) (hts _ (List.mem_cons_of_mem _ tw_382)) (fun _ h9 => h9) rfl d_De_add_122 ?_
        refine lv_iload_n hx hb d_De_add_125 rfl (lv_at hl 1 rfl) ?_
        refine lv_iconst (v := iI 1) hx hb d_De_add_126 rfl ?_
        refine ed_iadd hx hb d_De_add_127 ?_
        refine ed_max hx hb (hml.trans hl.1.symm) hown (hts _ (List.mem_cons_of_mem _ tw_546)) (hts _ (List.mem_cons_of_mem _ tw_146)) (hts _ (List.mem_cons_of_mem _ tw_6)) (hts _ (List.mem_cons_of_mem _ tw_147)) (Nat.le_of_ble_eq_true rfl) (Nat.le_of_ble_eq_true rfl) (Nat.le_of_ble_eq_true rfl) (Nat.le_of_ble_eq_true rfl) (by omega) (by omega) d_De_add_128 ?_
        refine va_put (D := D) (ci := 2) (v := .int (iI (max ((zk) + (1)) ((zk) + (1))))) (ty := .int) (C := R_De) (T := T_De) (N := 3) hx hb hts (fun w h => List.mem_cons_of_mem _ (in_De w h)) y_De t_De n_De hown hK hP hD hS 0 rfl rfl 2 (by decide) (hts _ (List.mem_cons_of_mem _ tw_382)) (fun _ h9 => h9) rfl (by decide +kernel) rfl rfl (Nat.le_of_ble_eq_true rfl) d_De_add_131 (fun H locs hP hD hS => ?_)
        have hP : va_P D ecl [(dc, .inr (2, [.ref dw, .int (iI (min (zk) (zk))), .int (iI (max ((zk) + (1)) ((zk) + (1))))])), (dw, .inl (cI, 465, .inl (upd f (464 - j) ((iI (((w0 + vv : Nat) : Int)))))))] H := hP
        have hD : va_D A [(dc, .inr (2, [.ref dw, .int (iI (min (zk) (zk))), .int (iI (max ((zk) + (1)) ((zk) + (1))))])), (dw, .inl (cI, 465, .inl (upd f (464 - j) ((iI (((w0 + vv : Nat) : Int)))))))] := hD
        have hde : de_ok (upd f (464 - j) (iI ((w0 + vv : Nat) : Int))) (464 - j) (464 - j + 1) (T + dg * 10 ^ Pn) := by
          refine ⟨by omega, by omega, ?_, ?_, ?_, hwa⟩
          · rw [hT0.1, Nat.zero_add, show 464 - (464 - j) = j by omega]; exact hB1
          · rw [hT0.1, Nat.zero_add, show 465 - (464 - j) = j + 1 by omega]; exact hB2
          · rw [show 465 - (464 - j + 1) = j by omega]; exact ad_m (by rw [hT0.1, Nat.zero_mod]) (by omega)
        exact W.vret hx hb hr (fun t9 ht9 hW9 => ⟨⟨[(dc, .inr (2, [.ref dw, .int (iI (min (zk) (zk))), .int (iI (max ((zk) + (1)) ((zk) + (1))))])), (dw, .inl (cI, 465, .inl (upd f (464 - j) ((iI (((w0 + vv : Nat) : Int)))))))], rfl, ⟨_, 464 - j, 464 - j + 1, hde, by rw [show min (zk) (zk) = (((464 - j : Nat)) : Int) by omega, show max ((zk) + (1)) ((zk) + (1)) = (((464 - j + 1 : Nat)) : Int) by omega]⟩, by rw [ht9]; exact hP, hD⟩, hS.F ht9⟩) hS.2.2 d_De_add_134
    · skip
      refine ed_pc (pc' := 61) rfl ?_
      refine lv_iload hx hb d_De_add_61 (lv_at hl 3 rfl) ?_
      refine lv_bipush (v := iI 10) hx hb d_De_add_63 (by decide +kernel) ?_
      refine ed_imul hx hb d_De_add_65 ?_
      refine lv_istore hx hb d_De_add_66 hl (by decide) rfl (fun ls hl => ?_)
      have hl : lv_has ls 7 [(5, .int (iI ((zv) * (10)))), (0, .ref dc), (3, .int (iI (zk))), (4, .int (iI (zi))), (6, .int (iI (zt)))] := hl
      refine ed_pc (pc' := 68) rfl ?_
      refine lv_iinc (k := 4) (v := iI (zt + 1)) hx hb d_De_add_68 hl rfl (iI_add _ _) (by decide) rfl (fun ls hl => ?_)
      have hl : lv_has ls 7 [(6, .int (iI (zt + 1))), (5, .int (iI ((zv) * (10)))), (0, .ref dc), (3, .int (iI (zk))), (4, .int (iI (zi)))] := hl
      refine lv_goto (tgt := 54) hx hb d_De_add_71 rfl ?_
      have hl := lv_sub hl [2, 3, 4, 1, 0] rfl
      exact ih _ (by omega) (t + 1) (vv * 10) _ _ _ _ ls H locs rfl (by omega) (by omega) (by rw [hvv, Nat.pow_succ, Nat.mul_assoc]) (hzk) (hzi) (by omega) hl hP hD hS
  refine lv_iload_n hx hb d_De_add_0 rfl (lv_at hl 2 rfl) ?_
  refine ed_if_lt (tgt := 14) hx hb d_De_add_1 rfl (by omega) (fun h_3 => ?_) (fun h_3 => ?_)
  · skip
    refine ed_pc (pc' := 14) rfl ?_
    refine lv_bipush (v := iI 45) hx hb d_De_add_14 (by decide +kernel) ?_
    refine lv_iload_n hx hb d_De_add_16 rfl (lv_at hl 2 rfl) ?_
    refine ed_ineg hx hb d_De_add_17 ?_
    refine lv_iconst (v := iI 1) hx hb d_De_add_18 rfl ?_
    refine ed_isub hx hb d_De_add_19 ?_
    refine ed_pc (pc' := 20) rfl ?_
    refine lv_bipush (v := iI 9) hx hb d_De_add_20 (by decide +kernel) ?_
    refine ed_idiv hx hb d_De_add_22 (by omega) (by omega) (by omega) ?_
    refine ed_iadd hx hb d_De_add_23 ?_
    refine lv_istore_n hx hb d_De_add_24 rfl hl (by decide) rfl (fun ls hl => ?_)
    have hl : lv_has ls 7 [(3, .int (iI ((45) + (((-(pz)) - (1)) / (9))))), (0, .ref dc), (1, .int (iI ((dg : Int)))), (2, .int (iI (pz)))] := hl
    refine lv_iload_n hx hb d_De_add_25 rfl (lv_at hl 3 rfl) ?_
    refine ed_if_lt (tgt := 36) hx hb d_De_add_26 rfl (by omega) (fun h_4 => ?_) (fun h_4 => ?_)
    · skip
      refine ed_pc (pc' := 36) rfl ?_
      refine lv_bipush (v := iI 8) hx hb d_De_add_36 (by decide +kernel) ?_
      refine lv_iload_n hx hb d_De_add_38 rfl (lv_at hl 3 rfl) ?_
      refine ed_pc (pc' := 39) rfl ?_
      refine ed_ineg hx hb d_De_add_39 ?_
      refine lv_iconst (v := iI 1) hx hb d_De_add_40 rfl ?_
      refine ed_isub hx hb d_De_add_41 ?_
      refine lv_bipush (v := iI 9) hx hb d_De_add_42 (by decide +kernel) ?_
      refine ed_irem hx hb d_De_add_44 (by omega) (by omega) (by omega) ?_
      refine ed_isub hx hb d_De_add_45 ?_
      refine lv_istore hx hb d_De_add_46 hl (by decide) rfl (fun ls hl => ?_)
      have hl : lv_has ls 7 [(4, .int (iI ((8) - (((-(pz)) - (1)) % (9))))), (3, .int (iI ((45) + (((-(pz)) - (1)) / (9))))), (0, .ref dc), (1, .int (iI ((dg : Int)))), (2, .int (iI (pz)))] := hl
      refine lv_iload_n hx hb d_De_add_48 rfl (lv_at hl 3 rfl) ?_
      refine ed_pc (pc' := 49) rfl ?_
      refine lv_istore hx hb d_De_add_49 hl (by decide) rfl (fun ls hl => ?_)
      have hl : lv_has ls 7 [(5, .int (iI ((dg : Int)))), (4, .int (iI ((8) - (((-(pz)) - (1)) % (9))))), (3, .int (iI ((45) + (((-(pz)) - (1)) / (9))))), (0, .ref dc), (1, .int (iI ((dg : Int)))), (2, .int (iI (pz)))] := hl
      refine lv_iconst (v := iI 0) hx hb d_De_add_51 rfl ?_
      refine lv_istore hx hb d_De_add_52 hl (by decide) rfl (fun ls hl => ?_)
      have hl : lv_has ls 7 [(6, .int (iI (0))), (5, .int (iI ((dg : Int)))), (4, .int (iI ((8) - (((-(pz)) - (1)) % (9))))), (3, .int (iI ((45) + (((-(pz)) - (1)) / (9))))), (0, .ref dc), (1, .int (iI ((dg : Int)))), (2, .int (iI (pz)))] := hl
      have hl := lv_sub hl [4, 3, 2, 1, 0] rfl
      exact L54 _ (0) (dg) _ _ _ _ ls s.heap [] rfl (rfl) (rfl) (by simp) (by omega) (by omega) (by omega) hl hP hD hS
    · exact absurd h_4 (by omega)
  · skip
    refine ed_pc (pc' := 4) rfl ?_
    refine lv_bipush (v := iI 44) hx hb d_De_add_4 (by decide +kernel) ?_
    refine lv_iload_n hx hb d_De_add_6 rfl (lv_at hl 2 rfl) ?_
    refine lv_bipush (v := iI 9) hx hb d_De_add_7 (by decide +kernel) ?_
    refine ed_idiv hx hb d_De_add_9 (by omega) (by omega) (by omega) ?_
    refine ed_isub hx hb d_De_add_10 ?_
    refine ed_pc (pc' := 11) rfl ?_
    refine lv_goto (tgt := 24) hx hb d_De_add_11 rfl ?_
    refine lv_istore_n hx hb d_De_add_24 rfl hl (by decide) rfl (fun ls hl => ?_)
    have hl : lv_has ls 7 [(3, .int (iI ((44) - ((pz) / (9))))), (0, .ref dc), (1, .int (iI ((dg : Int)))), (2, .int (iI (pz)))] := hl
    refine lv_iload_n hx hb d_De_add_25 rfl (lv_at hl 3 rfl) ?_
    refine ed_if_lt (tgt := 36) hx hb d_De_add_26 rfl (by omega) (fun h_5 => ?_) (fun h_5 => ?_)
    · exact absurd h_5 (by omega)
    · skip
      refine ed_pc (pc' := 29) rfl ?_
      refine lv_iload_n hx hb d_De_add_29 rfl (lv_at hl 3 rfl) ?_
      refine lv_bipush (v := iI 9) hx hb d_De_add_30 (by decide +kernel) ?_
      refine ed_irem hx hb d_De_add_32 (by omega) (by omega) (by omega) ?_
      refine lv_goto (tgt := 46) hx hb d_De_add_33 rfl ?_
      refine ed_pc (pc' := 46) rfl ?_
      refine lv_istore hx hb d_De_add_46 hl (by decide) rfl (fun ls hl => ?_)
      have hl : lv_has ls 7 [(4, .int (iI ((pz) % (9)))), (3, .int (iI ((44) - ((pz) / (9))))), (0, .ref dc), (1, .int (iI ((dg : Int)))), (2, .int (iI (pz)))] := hl
      refine lv_iload_n hx hb d_De_add_48 rfl (lv_at hl 3 rfl) ?_
      refine lv_istore hx hb d_De_add_49 hl (by decide) rfl (fun ls hl => ?_)
      have hl : lv_has ls 7 [(5, .int (iI ((dg : Int)))), (4, .int (iI ((pz) % (9)))), (3, .int (iI ((44) - ((pz) / (9))))), (0, .ref dc), (1, .int (iI ((dg : Int)))), (2, .int (iI (pz)))] := hl
      refine lv_iconst (v := iI 0) hx hb d_De_add_51 rfl ?_
      refine lv_istore hx hb d_De_add_52 hl (by decide) rfl (fun ls hl => ?_)
      have hl : lv_has ls 7 [(6, .int (iI (0))), (5, .int (iI ((dg : Int)))), (4, .int (iI ((pz) % (9)))), (3, .int (iI ((44) - ((pz) / (9))))), (0, .ref dc), (1, .int (iI ((dg : Int)))), (2, .int (iI (pz)))] := hl
      have hl := lv_sub hl [4, 3, 2, 1, 0] rfl
      exact L54 _ (0) (dg) _ _ _ _ ls s.heap [] rfl (rfl) (rfl) (by simp) (by omega) (by omega) (by omega) hl hP hD hS
