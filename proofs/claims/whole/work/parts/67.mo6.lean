set_option maxHeartbeats 4000000 in
set_option maxRecDepth 100000 in
theorem c_Ro_raise (l : Launch) (D : va_G) (cB cI cJ : ClassId) (t5 : Nat) (ad : Nat → Nat) (r rd : Nat) (d : Nat → Int32) (pt : Int) (Y : Nat) (h41 : dl Y ≤ 4100) (hg : dg_ok d (dl Y) Y) (hpt : -100000000 ≤ pt ∧ pt ≤ 100000000) : c_V l m_Ro_raise (Cond.code m_Ro_raise b_Ro_raise 2 none :: gw) (rm_ 0 0) (eX t5 ad) D ecl (tyS cB cI cJ) [.ref r] [(r, .inr (3, [.ref rd, .int (iI (((dl Y : Nat) : Int))), .int (iI (pt))])), (rd, .inl (cB, 4200, .inl d))] (fun u => ∃ d' : Nat → Int32, rw_ok d' (rz (Y + 1)) ∧ u = [(r, .inr (3, [.ref rd, .int (iI (((dl (rz (Y + 1)) : Nat) : Int))), .int (iI (pt + (((dl (Y + 1) : Nat) : Int) - ((dl Y : Nat) : Int))))])), (rd, .inl (cB, 4200, .inl d'))]) 0 0 := by
  intro sz0
  refine Met.ofW (cc := b_Ro_raise) (maxL := 2) (ret := none) (by decide) rfl ?_
  intro p e s m args below meth c s₁ B hml hv
  obtain ⟨rfl, hsz, hP, hK, hD0, hE⟩ := hv
  have hx := B.exec
  have hb := B.bytes
  have hr := B.returns
  have hts := atoms_spec (ws := Cond.code m_Ro_raise b_Ro_raise 2 none :: gw) B.pre
  have hown : s.vm.findClass R_Ro = some m.cls := findClass_of_methodNamed B.named
  have hlocks := B.notSynchronized
  subst hsz
  have hD := hD0.self (sz := s.heap.size)
  generalize hAe : va_A [(r, .inr (3, [.ref rd, .int (iI (((dl Y : Nat) : Int))), .int (iI (pt))])), (rd, .inl (cB, 4200, .inl d))] s.heap.size = A at hD hE ⊢
  have hA : ∀ q : Nat, s.heap.size ≤ q → A q := fun q h => by rw [← hAe]; exact Or.inr h
  have hS : va_S A s.heap s.heap [] := va_S.rf
  have hl := lv_entry ([.ref r]) (n := 2) (Nat.le_of_ble_eq_true rfl)
  rw [lg_entry_eq]
  generalize (lg_sl ([.ref r]) ++ List.replicate (2 - (lg_sl ([.ref r])).length) Slot.unset).toArray = ls at hl ⊢
  have hl : lv_has ls 2 [(0, .ref r)] := hl
  have L7 : ∀ (n9 : Nat) (j : Nat) (zk : Int) (ls : Array Slot) (H : Heap) (locs : List Loc), dl Y - j = n9 → (zk = ((dl Y : Nat) : Int) - 1 - (j : Int)) → (j ≤ dl Y) → (Y % 10 ^ j = 10 ^ j - 1) → lv_has ls 2 [(0, .ref r), (1, .int (iI (zk)))] → va_P D ecl [(r, .inr (3, [.ref rd, .int (iI (((dl Y : Nat) : Int))), .int (iI (pt))])), (rd, .inl (cB, 4200, .inl d))] H → va_D A [(r, .inr (3, [.ref rd, .int (iI (((dl Y : Nat) : Int))), .int (iI (pt))])), (rd, .inl (cB, 4200, .inl d))] → va_S A s.heap H locs → W p l e (headSpec (Cond.code m_Ro_raise b_Ro_raise 2 none :: gw) (rm_ 0 0)).room s m ([.ref r] : List Value).toArray below meth c H locs 0 0 (MQ below (va_Qv (fun u => ∃ d' : Nat → Int32, rw_ok d' (rz (Y + 1)) ∧ u = [(r, .inr (3, [.ref rd, .int (iI (((dl (rz (Y + 1)) : Nat) : Int))), .int (iI (pt + (((dl (Y + 1) : Nat) : Int) - ((dl Y : Nat) : Int))))])), (rd, .inl (cB, 4200, .inl d'))]) (c_B D ecl A) A) ([.ref r] : List Value).toArray s 0 0 A) (F0 m 7 ls []) := by
    intro n9
    induction n9 using Nat.strongRecOn with
    | ind n9 ih =>
    intro j zk ls H locs hn9 hzk hj h9 hl hP hD hS
    refine lv_iload_n hx hb d_Ro_raise_7 rfl (lv_at hl 1 rfl) ?_
    refine ed_if_lt (tgt := 28) hx hb d_Ro_raise_8 rfl (by omega) (fun h_1 => ?_) (fun h_1 => ?_)
    · skip
      refine ed_pc (pc' := 28) rfl ?_
      refine lv_iload_n hx hb d_Ro_raise_28 rfl (lv_at hl 1 rfl) ?_
      refine ed_if_ge (tgt := 55) hx hb d_Ro_raise_29 rfl (by omega) (fun h_2 => ?_) (fun h_2 => ?_)
      · exact absurd h_2 (by omega)
      · skip
        refine ed_pc (pc' := 32) rfl ?_
        have hje : j = dl Y := by omega
        have hY1 := ra_1 hje h9
        have hr1 : rz (Y + 1) = 1 := by rw [hY1]; exact rz_p10 _
        have hd1 : dl (Y + 1) = dl Y + 1 := by rw [hY1]; exact dl_p10 _
        have h1d : dl 1 = 1 := dl_p10 0
        refine lv_aload_n hx hb d_Ro_raise_32 rfl (lv_at hl 0 rfl) ?_
        refine va_get (D := D) (ci := 3) (v := .ref rd) (C := R_Ro) (T := T_Ro) (N := 3) hx hb hts (fun w h => List.mem_cons_of_mem _ (in_Ro w h)) hown hK hP 0 rfl rfl 0 (by decide) (hts _ (List.mem_cons_of_mem _ tw_359)) (fun _ h9 => h9) rfl d_Ro_raise_33 ?_
        refine lv_iconst (v := iI 0) hx hb d_Ro_raise_36 rfl ?_
        refine ed_pc (pc' := 37) rfl ?_
        refine lv_iconst (v := iI 1) hx hb d_Ro_raise_37 rfl ?_
        refine ed_bast hx hb hK hP hD hS 1 0 rfl rfl (0) (by omega) (by omega) (by decide) (by omega) d_Ro_raise_38 (fun H locs hP hD hS => ?_)
        have hP : va_P D ecl [(r, .inr (3, [.ref rd, .int (iI (((dl Y : Nat) : Int))), .int (iI (pt))])), (rd, .inl (cB, 4200, .inl (upd d (0) ((iI (1))))))] H := hP
        have hD : va_D A [(r, .inr (3, [.ref rd, .int (iI (((dl Y : Nat) : Int))), .int (iI (pt))])), (rd, .inl (cB, 4200, .inl (upd d (0) ((iI (1))))))] := hD
        refine lv_aload_n hx hb d_Ro_raise_39 rfl (lv_at hl 0 rfl) ?_
        refine lv_iconst (v := iI 1) hx hb d_Ro_raise_40 rfl ?_
        refine va_put (D := D) (ci := 3) (v := .int (iI (1))) (ty := .int) (C := R_Ro) (T := T_Ro) (N := 3) hx hb hts (fun w h => List.mem_cons_of_mem _ (in_Ro w h)) y_Ro t_Ro n_Ro hown hK hP hD hS 0 rfl rfl 1 (by decide) (hts _ (List.mem_cons_of_mem _ tw_361)) (fun _ h9 => h9) rfl (by decide +kernel) rfl rfl (Nat.le_of_ble_eq_true rfl) d_Ro_raise_41 (fun H locs hP hD hS => ?_)
        have hP : va_P D ecl [(r, .inr (3, [.ref rd, .int (iI (1)), .int (iI (pt))])), (rd, .inl (cB, 4200, .inl (upd d (0) ((iI (1))))))] H := hP
        have hD : va_D A [(r, .inr (3, [.ref rd, .int (iI (1)), .int (iI (pt))])), (rd, .inl (cB, 4200, .inl (upd d (0) ((iI (1))))))] := hD
        refine lv_aload_n hx hb d_Ro_raise_44 rfl (lv_at hl 0 rfl) ?_
        refine lv_dup hx hb d_Ro_raise_45 rfl ?_
        refine va_get (D := D) (ci := 3) (v := .int (iI (pt))) (C := R_Ro) (T := T_Ro) (N := 3) hx hb hts (fun w h => List.mem_cons_of_mem _ (in_Ro w h)) hown hK hP 0 rfl rfl 2 (by decide) (hts _ (List.mem_cons_of_mem _ tw_363)) (fun _ h9 => h9) rfl d_Ro_raise_46 ?_
        refine ed_pc (pc' := 49) rfl ?_
        refine lv_iconst (v := iI 1) hx hb d_Ro_raise_49 rfl ?_
        refine ed_iadd hx hb d_Ro_raise_50 ?_
        refine va_put (D := D) (ci := 3) (v := .int (iI ((pt) + (1)))) (ty := .int) (C := R_Ro) (T := T_Ro) (N := 3) hx hb hts (fun w h => List.mem_cons_of_mem _ (in_Ro w h)) y_Ro t_Ro n_Ro hown hK hP hD hS 0 rfl rfl 2 (by decide) (hts _ (List.mem_cons_of_mem _ tw_363)) (fun _ h9 => h9) rfl (by decide +kernel) rfl rfl (Nat.le_of_ble_eq_true rfl) d_Ro_raise_51 (fun H locs hP hD hS => ?_)
        have hP : va_P D ecl [(r, .inr (3, [.ref rd, .int (iI (1)), .int (iI ((pt) + (1)))])), (rd, .inl (cB, 4200, .inl (upd d (0) ((iI (1))))))] H := hP
        have hD : va_D A [(r, .inr (3, [.ref rd, .int (iI (1)), .int (iI ((pt) + (1)))])), (rd, .inl (cB, 4200, .inl (upd d (0) ((iI (1))))))] := hD
        exact W.vret hx hb hr (fun t9 ht9 hW9 => ⟨⟨[(r, .inr (3, [.ref rd, .int (iI (1)), .int (iI ((pt) + (1)))])), (rd, .inl (cB, 4200, .inl (upd d (0) ((iI (1))))))], rfl, ⟨upd d 0 (iI 1), by rw [hr1]; exact ⟨rz_n (by decide), fun i hi => by rw [h1d] at hi ⊢; rw [show i = 0 by omega, pk_us]; rfl⟩, by rw [hr1, h1d, hd1, show pt + (((dl Y + 1 : Nat) : Int) - ((dl Y : Nat) : Int)) = pt + 1 by omega]; rfl⟩, by rw [ht9]; exact hP, hD⟩, hS.F ht9⟩) hS.2.2 d_Ro_raise_54
    · skip
      refine ed_pc (pc' := 11) rfl ?_
      obtain ⟨e, he⟩ : ∃ e : Nat, e = Y / 10 ^ j % 10 := ⟨_, rfl⟩
      have he9 : e < 10 := by rw [he]; exact dg_lt _ _
      have hde : d (dl Y - 1 - j) = iI (e : Int) := by rw [he, hg (dl Y - 1 - j) (by omega), show dl Y - 1 - (dl Y - 1 - j) = j by omega]
      refine lv_aload_n hx hb d_Ro_raise_11 rfl (lv_at hl 0 rfl) ?_
      refine va_get (D := D) (ci := 3) (v := .ref rd) (C := R_Ro) (T := T_Ro) (N := 3) hx hb hts (fun w h => List.mem_cons_of_mem _ (in_Ro w h)) hown hK hP 0 rfl rfl 0 (by decide) (hts _ (List.mem_cons_of_mem _ tw_359)) (fun _ h9 => h9) rfl d_Ro_raise_12 ?_
      refine lv_iload_n hx hb d_Ro_raise_15 rfl (lv_at hl 1 rfl) ?_
      refine ed_bald (y := (e : Int)) hx hb hK hP 1 0 rfl rfl (dl Y - 1 - j) (by omega) (by omega) (by decide) (hde) d_Ro_raise_16 ?_
      refine lv_bipush (v := iI 9) hx hb d_Ro_raise_17 (by decide +kernel) ?_
      refine ed_pc (pc' := 19) rfl ?_
      refine ed_icmp_ne (tgt := 28) hx hb d_Ro_raise_19 rfl (by omega) (by omega) (fun h_3 => ?_) (fun h_3 => ?_)
      · skip
        refine ed_pc (pc' := 28) rfl ?_
        refine lv_iload_n hx hb d_Ro_raise_28 rfl (lv_at hl 1 rfl) ?_
        refine ed_if_ge (tgt := 55) hx hb d_Ro_raise_29 rfl (by omega) (fun h_4 => ?_) (fun h_4 => ?_)
        · skip
          refine ed_pc (pc' := 55) rfl ?_
          have hnl : j < dl Y := by omega
          obtain ⟨hr1, hd1, hd2⟩ := ra_6 hnl h9 (by omega)
          refine lv_aload_n hx hb d_Ro_raise_55 rfl (lv_at hl 0 rfl) ?_
          refine va_get (D := D) (ci := 3) (v := .ref rd) (C := R_Ro) (T := T_Ro) (N := 3) hx hb hts (fun w h => List.mem_cons_of_mem _ (in_Ro w h)) hown hK hP 0 rfl rfl 0 (by decide) (hts _ (List.mem_cons_of_mem _ tw_359)) (fun _ h9 => h9) rfl d_Ro_raise_56 ?_
          refine lv_iload_n hx hb d_Ro_raise_59 rfl (lv_at hl 1 rfl) ?_
          refine lv_dup2_11 hx hb d_Ro_raise_60 rfl rfl ?_
          refine ed_bald (y := (e : Int)) hx hb hK hP 1 0 rfl rfl (dl Y - 1 - j) (by omega) (by omega) (by decide) (hde) d_Ro_raise_61 ?_
          refine ed_pc (pc' := 62) rfl ?_
          refine lv_iconst (v := iI 1) hx hb d_Ro_raise_62 rfl ?_
          refine ed_iadd hx hb d_Ro_raise_63 ?_
          refine ed_i2b hx hb d_Ro_raise_64 (by omega) ?_
          refine ed_bast hx hb hK hP hD hS 1 0 rfl rfl (dl Y - 1 - j) (by omega) (by omega) (by decide) (by omega) d_Ro_raise_65 (fun H locs hP hD hS => ?_)
          have hP : va_P D ecl [(r, .inr (3, [.ref rd, .int (iI (((dl Y : Nat) : Int))), .int (iI (pt))])), (rd, .inl (cB, 4200, .inl (upd d (dl Y - 1 - j) ((iI (((e : Int)) + (1)))))))] H := hP
          have hD : va_D A [(r, .inr (3, [.ref rd, .int (iI (((dl Y : Nat) : Int))), .int (iI (pt))])), (rd, .inl (cB, 4200, .inl (upd d (dl Y - 1 - j) ((iI (((e : Int)) + (1)))))))] := hD
          refine lv_aload_n hx hb d_Ro_raise_66 rfl (lv_at hl 0 rfl) ?_
          refine lv_iload_n hx hb d_Ro_raise_67 rfl (lv_at hl 1 rfl) ?_
          refine lv_iconst (v := iI 1) hx hb d_Ro_raise_68 rfl ?_
          refine ed_iadd hx hb d_Ro_raise_69 ?_
          refine ed_tz (y := ((dl (rz (Y + 1)) : Nat) : Int)) (by rw [hr1, hd1]; omega) ?_
          refine ed_pc (pc' := 70) rfl ?_
          refine va_put (D := D) (ci := 3) (v := .int (iI (((dl (rz (Y + 1)) : Nat) : Int)))) (ty := .int) (C := R_Ro) (T := T_Ro) (N := 3) hx hb hts (fun w h => List.mem_cons_of_mem _ (in_Ro w h)) y_Ro t_Ro n_Ro hown hK hP hD hS 0 rfl rfl 1 (by decide) (hts _ (List.mem_cons_of_mem _ tw_361)) (fun _ h9 => h9) rfl (by decide +kernel) rfl rfl (Nat.le_of_ble_eq_true rfl) d_Ro_raise_70 (fun H locs hP hD hS => ?_)
          have hP : va_P D ecl [(r, .inr (3, [.ref rd, .int (iI (((dl (rz (Y + 1)) : Nat) : Int))), .int (iI (pt))])), (rd, .inl (cB, 4200, .inl (upd d (dl Y - 1 - j) ((iI (((e : Int)) + (1)))))))] H := hP
          have hD : va_D A [(r, .inr (3, [.ref rd, .int (iI (((dl (rz (Y + 1)) : Nat) : Int))), .int (iI (pt))])), (rd, .inl (cB, 4200, .inl (upd d (dl Y - 1 - j) ((iI (((e : Int)) + (1)))))))] := hD
          exact W.vret hx hb hr (fun t9 ht9 hW9 => ⟨⟨[(r, .inr (3, [.ref rd, .int (iI (((dl (rz (Y + 1)) : Nat) : Int))), .int (iI (pt))])), (rd, .inl (cB, 4200, .inl (upd d (dl Y - 1 - j) ((iI (((e : Int)) + (1)))))))], rfl, ⟨upd d (dl Y - 1 - j) (iI ((e : Int) + 1)), by rw [hr1]; exact ⟨rz_n (by omega), by rw [hd1, show dl Y - 1 - j = dl Y - j - 1 by omega, show ((e : Int) + 1) = ((Y / 10 ^ j % 10 + 1 : Nat) : Int) by omega]; exact ra_4 (dg_pre hg (show dl Y - j ≤ dl Y by omega) |> fun h => by rw [show dl Y - (dl Y - j) = j by omega] at h; exact h) (by omega) (by omega)⟩, by rw [hd2, show pt + (((dl Y : Nat) : Int) - ((dl Y : Nat) : Int)) = pt by omega]⟩, by rw [ht9]; exact hP, hD⟩, hS.F ht9⟩) hS.2.2 d_Ro_raise_73
        · exact absurd h_4 (by omega)
      · skip
        refine ed_pc (pc' := 22) rfl ?_
        refine lv_iinc (k := 1) (v := iI (zk + (-1))) hx hb d_Ro_raise_22 hl rfl (iI_add _ _) (by decide) rfl (fun ls hl => ?_)
        have hl : lv_has ls 2 [(1, .int (iI (zk + (-1)))), (0, .ref r)] := hl
        refine lv_goto (tgt := 7) hx hb d_Ro_raise_25 rfl ?_
        have hl := lv_sub hl [1, 0] rfl
        exact ih _ (by omega) (j + 1) _ ls H locs rfl (by omega) (by omega) (ra_5 h9 (by omega)) hl hP hD hS
  refine lv_aload_n hx hb d_Ro_raise_0 rfl (lv_at hl 0 rfl) ?_
  refine va_get (D := D) (ci := 3) (v := .int (iI (((dl Y : Nat) : Int)))) (C := R_Ro) (T := T_Ro) (N := 3) hx hb hts (fun w h => List.mem_cons_of_mem _ (in_Ro w h)) hown hK hP 0 rfl rfl 1 (by decide) (hts _ (List.mem_cons_of_mem _ tw_361)) (fun _ h9 => h9) rfl d_Ro_raise_1 ?_
  refine lv_iconst (v := iI 1) hx hb d_Ro_raise_4 rfl ?_
  refine ed_isub hx hb d_Ro_raise_5 ?_
  refine lv_istore_n hx hb d_Ro_raise_6 rfl hl (by decide) rfl (fun ls hl => ?_)
  have hl : lv_has ls 2 [(1, .int (iI ((((dl Y : Nat) : Int)) - (1)))), (0, .ref r)] := hl
  have hl := lv_sub hl [1, 0] rfl
  exact L7 _ (0) _ ls s.heap [] rfl (by omega) (by omega) (by simp [Nat.mod_one]) hl hP hD hS
