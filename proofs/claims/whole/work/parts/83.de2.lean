set_option maxHeartbeats 4000000 in
set_option maxRecDepth 100000 in
theorem c_De_half (l : Launch) (D : va_G) (cB cI cJ : ClassId) (t5 : Nat) (ad : Nat → Nat) (dc dw fr to : Nat) (f : Nat → Int32) (T : Nat) (hde : de_ok f fr to T) (he : to = 400 → T / 1000000000 ^ 65 % 2 = 0) : c_V l m_De_half (Cond.code m_De_half b_De_half 4 none :: gw) (rm_ 0 0) (eX t5 ad) D ecl (tyS cB cI cJ) [.ref dc] [(dc, .inr (2, [.ref dw, .int (iI ((fr : Int))), .int (iI ((to : Int)))])), (dw, .inl (cI, 465, .inl f))] (fun u => ∃ (f' : Nat → Int32) (fr' to' : Nat), de_ok f' fr' to' (T / 2) ∧ u = [(dc, .inr (2, [.ref dw, .int (iI ((fr' : Int))), .int (iI ((to' : Int)))])), (dw, .inl (cI, 465, .inl f'))]) 0 0 := by
  intro sz0
  refine Met.ofW (cc := b_De_half) (maxL := 4) (ret := none) (by decide) rfl ?_
  intro p e s m args below meth c s₁ B hml hv
  obtain ⟨rfl, hsz, hP, hK, hD0, hE⟩ := hv
  have hx := B.exec
  have hb := B.bytes
  have hr := B.returns
  have hts := atoms_spec (ws := Cond.code m_De_half b_De_half 4 none :: gw) B.pre
  have hown : s.vm.findClass R_De = some m.cls := findClass_of_methodNamed B.named
  have hlocks := B.notSynchronized
  subst hsz
  have hD := hD0.self (sz := s.heap.size)
  generalize hAe : va_A [(dc, .inr (2, [.ref dw, .int (iI ((fr : Int))), .int (iI ((to : Int)))])), (dw, .inl (cI, 465, .inl f))] s.heap.size = A at hD hE ⊢
  have hA : ∀ q : Nat, s.heap.size ≤ q → A q := fun q h => by rw [← hAe]; exact Or.inr h
  have hS : va_S A s.heap s.heap [] := va_S.rf
  have hl := lv_entry ([.ref dc]) (n := 4) (Nat.le_of_ble_eq_true rfl)
  rw [lg_entry_eq]
  generalize (lg_sl ([.ref dc]) ++ List.replicate (4 - (lg_sl ([.ref dc])).length) Slot.unset).toArray = ls at hl ⊢
  have hl : lv_has ls 4 [(0, .ref dc)] := hl
  obtain ⟨h1, h2, h3, h4, h5, h6⟩ := hde
  have hTp : 0 < T / 2 := by
    have q1 : 1000000000 ^ 1 ≤ 1000000000 ^ (464 - fr) := pB_le (by omega)
    omega
  have L82 : ∀ (n9 : Nat) (h : Nat → Int32) (fq : Nat) (tq : Nat) (zf : Int) (zt : Int) (ls : Array Slot) (H : Heap) (locs : List Loc), tq - fq = n9 → (zf = (fq : Int)) → (zt = (tq : Int)) → (wa_ok h (T / 2)) → (tq ≤ 400) → (T / 2 < 1000000000 ^ (465 - fq)) → (T / 2 % 1000000000 ^ (465 - tq) = 0) → (fq < tq) → lv_has ls 4 [(0, .ref dc)] → va_P D ecl [(dc, .inr (2, [.ref dw, .int (iI (zf)), .int (iI (zt))])), (dw, .inl (cI, 465, .inl h))] H → va_D A [(dc, .inr (2, [.ref dw, .int (iI (zf)), .int (iI (zt))])), (dw, .inl (cI, 465, .inl h))] → va_S A s.heap H locs → W p l e (headSpec (Cond.code m_De_half b_De_half 4 none :: gw) (rm_ 0 0)).room s m ([.ref dc] : List Value).toArray below meth c H locs 0 0 (MQ below (va_Qv (fun u => ∃ (f' : Nat → Int32) (fr' to' : Nat), de_ok f' fr' to' (T / 2) ∧ u = [(dc, .inr (2, [.ref dw, .int (iI ((fr' : Int))), .int (iI ((to' : Int)))])), (dw, .inl (cI, 465, .inl f'))]) (c_B D ecl A) A) ([.ref dc] : List Value).toArray s 0 0 A) (F0 m 82 ls []) := by
    intro n9
    induction n9 using Nat.strongRecOn with
    | ind n9 ih =>
    intro h fq tq zf zt ls H locs hn9 hzf hzt hwa ht4 hup hlm hlt hl hP hD hS
    refine lv_aload_n hx hb d_De_half_82 rfl (lv_at hl 0 rfl) ?_
    refine va_get (D := D) (ci := 2) (v := .int (iI (zf))) (C := R_De) (T := T_De) (N := 3) hx hb hts (fun w h => List.mem_cons_of_mem _ (in_De w h)) hown hK hP 0 rfl rfl 1 (by decide) (hts _ (List.mem_cons_of_mem _ tw_380)) (fun _ h9 => h9) rfl d_De_half_83 ?_
    refine lv_aload_n hx hb d_De_half_86 rfl (lv_at hl 0 rfl) ?_
    refine va_get (D := D) (ci := 2) (v := .int (iI (zt))) (C := R_De) (T := T_De) (N := 3) hx hb hts (fun w h => List.mem_cons_of_mem _ (in_De w h)) hown hK hP 0 rfl rfl 2 (by decide) (hts _ (List.mem_cons_of_mem _ tw_382)) (fun _ h9 => h9) rfl d_De_half_87 ?_
    refine ed_icmp_ge (tgt := 118) hx hb d_De_half_90 rfl (by omega) (by omega) (fun h_1 => ?_) (fun h_1 => ?_)
    · exact absurd h_1 (by omega)
    · skip
      refine ed_pc (pc' := 93) rfl ?_
      obtain ⟨w0, hw0⟩ : ∃ w0 : Nat, w0 = wq (T / 2) fq := ⟨_, rfl⟩
      have hw9 := wq_lt (T / 2) fq
      rw [← hw0] at hw9
      refine lv_aload_n hx hb d_De_half_93 rfl (lv_at hl 0 rfl) ?_
      refine va_get (D := D) (ci := 2) (v := .ref dw) (C := R_De) (T := T_De) (N := 3) hx hb hts (fun w h => List.mem_cons_of_mem _ (in_De w h)) hown hK hP 0 rfl rfl 0 (by decide) (hts _ (List.mem_cons_of_mem _ tw_378)) (fun _ h9 => h9) rfl d_De_half_94 ?_
      refine ed_pc (pc' := 97) rfl ?_
      refine lv_aload_n hx hb d_De_half_97 rfl (lv_at hl 0 rfl) ?_
      refine va_get (D := D) (ci := 2) (v := .int (iI (zf))) (C := R_De) (T := T_De) (N := 3) hx hb hts (fun w h => List.mem_cons_of_mem _ (in_De w h)) hown hK hP 0 rfl rfl 1 (by decide) (hts _ (List.mem_cons_of_mem _ tw_380)) (fun _ h9 => h9) rfl d_De_half_98 ?_
      refine ed_iald (y := (w0 : Int)) hx hb hK hP 1 1 rfl rfl (fq) (by omega) (by omega) (by decide) (by rw [hw0]; exact hwa fq (by omega)) d_De_half_101 ?_
      refine ed_if_ne (tgt := 118) hx hb d_De_half_102 rfl (by omega) (fun h_2 => ?_) (fun h_2 => ?_)
      · skip
        refine ed_pc (pc' := 118) rfl ?_
        subst hzf
        subst hzt
        exact W.vret hx hb hr (fun t9 ht9 hW9 => ⟨⟨[(dc, .inr (2, [.ref dw, .int (iI ((fq : Int))), .int (iI ((tq : Int)))])), (dw, .inl (cI, 465, .inl h))], rfl, ⟨h, fq, tq, ⟨hlt, ht4, tp_n (by omega) hup (by omega), hup, hlm, hwa⟩, rfl⟩, by rw [ht9]; exact hP, hD⟩, hS.F ht9⟩) hS.2.2 d_De_half_118
      · skip
        refine ed_pc (pc' := 105) rfl ?_
        refine lv_aload_n hx hb d_De_half_105 rfl (lv_at hl 0 rfl) ?_
        refine lv_dup hx hb d_De_half_106 rfl ?_
        refine va_get (D := D) (ci := 2) (v := .int (iI (zf))) (C := R_De) (T := T_De) (N := 3) hx hb hts (fun w h => List.mem_cons_of_mem _ (in_De w h)) hown hK hP 0 rfl rfl 1 (by decide) (hts _ (List.mem_cons_of_mem _ tw_380)) (fun _ h9 => h9) rfl d_De_half_107 ?_
        refine lv_iconst (v := iI 1) hx hb d_De_half_110 rfl ?_
        refine ed_pc (pc' := 111) rfl ?_
        refine ed_iadd hx hb d_De_half_111 ?_
        refine va_put (D := D) (ci := 2) (v := .int (iI ((zf) + (1)))) (ty := .int) (C := R_De) (T := T_De) (N := 3) hx hb hts (fun w h => List.mem_cons_of_mem _ (in_De w h)) y_De t_De n_De hown hK hP hD hS 0 rfl rfl 1 (by decide) (hts _ (List.mem_cons_of_mem _ tw_380)) (fun _ h9 => h9) rfl (by decide +kernel) rfl rfl (Nat.le_of_ble_eq_true rfl) d_De_half_112 (fun H locs hP hD hS => ?_)
        have hP : va_P D ecl [(dc, .inr (2, [.ref dw, .int (iI ((zf) + (1))), .int (iI (zt))])), (dw, .inl (cI, 465, .inl h))] H := hP
        have hD : va_D A [(dc, .inr (2, [.ref dw, .int (iI ((zf) + (1))), .int (iI (zt))])), (dw, .inl (cI, 465, .inl h))] := hD
        refine lv_goto (tgt := 82) hx hb d_De_half_115 rfl ?_
        have hl := lv_sub hl [0] rfl
        exact ih _ (by omega) (h) (fq + 1) (tq) _ _ ls H locs rfl (by omega) (hzt) (hwa) (ht4) (tp_z (by omega) hup (by omega)) (hlm) (tp_lt hTp (by omega) (tp_z (by omega) hup (by omega)) hlm) hl hP hD hS
  have L7 : ∀ (n9 : Nat) (j : Nat) (h : Nat → Int32) (rr : Nat) (zj : Int) (zr : Int) (ls : Array Slot) (H : Heap) (locs : List Loc), to - j = n9 → (zj = (j : Int)) → (zr = (rr : Int)) → (rr = T / 1000000000 ^ (465 - j) % 2) → (fr ≤ j ∧ j ≤ to) → (∀ k, k < j → h k = iI ((wq (T / 2) k : Nat) : Int)) → (∀ k, k < 465 → j ≤ k → h k = iI ((wq T k : Nat) : Int)) → lv_has ls 4 [(0, .ref dc), (1, .int (iI (zr))), (2, .int (iI (zj)))] → va_P D ecl [(dc, .inr (2, [.ref dw, .int (iI ((fr : Int))), .int (iI ((to : Int)))])), (dw, .inl (cI, 465, .inl h))] H → va_D A [(dc, .inr (2, [.ref dw, .int (iI ((fr : Int))), .int (iI ((to : Int)))])), (dw, .inl (cI, 465, .inl h))] → va_S A s.heap H locs → W p l e (headSpec (Cond.code m_De_half b_De_half 4 none :: gw) (rm_ 0 0)).room s m ([.ref dc] : List Value).toArray below meth c H locs 0 0 (MQ below (va_Qv (fun u => ∃ (f' : Nat → Int32) (fr' to' : Nat), de_ok f' fr' to' (T / 2) ∧ u = [(dc, .inr (2, [.ref dw, .int (iI ((fr' : Int))), .int (iI ((to' : Int)))])), (dw, .inl (cI, 465, .inl f'))]) (c_B D ecl A) A) ([.ref dc] : List Value).toArray s 0 0 A) (F0 m 7 ls []) := by
    intro n9
    induction n9 using Nat.strongRecOn with
    | ind n9 ih =>
    intro j h rr zj zr ls H locs hn9 hzj hzr hrr hj hlo hhi hl hP hD hS
    refine lv_iload_n hx hb d_De_half_7 rfl (lv_at hl 2 rfl) ?_
    refine lv_aload_n hx hb d_De_half_8 rfl (lv_at hl 0 rfl) ?_
    refine va_get (D := D) (ci := 2) (v := .int (iI ((to : Int)))) (C := R_De) (T := T_De) (N := 3) hx hb hts (fun w h => List.mem_cons_of_mem _ (in_De w h)) hown hK hP 0 rfl rfl 2 (by decide) (hts _ (List.mem_cons_of_mem _ tw_382)) (fun _ h9 => h9) rfl d_De_half_9 ?_
    refine ed_icmp_ge (tgt := 57) hx hb d_De_half_12 rfl (by omega) (by omega) (fun h_3 => ?_) (fun h_3 => ?_)
    · skip
      refine ed_pc (pc' := 57) rfl ?_
      have hje : j = to := by omega
      rw [hje] at hrr hlo hhi
      have hr2 : rr < 2 := by rw [hrr]; exact Nat.mod_lt _ (by decide)
      refine lv_iload_n hx hb d_De_half_57 rfl (lv_at hl 1 rfl) ?_
      refine ed_if_le (tgt := 82) hx hb d_De_half_58 rfl (by omega) (fun h_4 => ?_) (fun h_4 => ?_)
      · skip
        refine ed_pc (pc' := 82) rfl ?_
        have hlmf := hf_even h5 (by rw [← hrr]; omega)
        have hwaf : wa_ok h (T / 2) := by
          intro k hk
          rcases Nat.lt_or_ge k to with q | q
          · exact hlo k q
          · rw [hhi k hk q, wq_lo h5 q hk, wq_lo hlmf q hk]
        have hl := lv_sub hl [0] rfl
        exact L82 _ (_) (fr) (to) _ _ ls H locs rfl (rfl) (by omega) (hwaf) (by omega) (Nat.lt_of_le_of_lt (Nat.div_le_self _ _) h4) (hlmf) (by omega) hl hP hD hS
      · skip
        refine ed_pc (pc' := 61) rfl ?_
        have hr1 : rr = 1 := by omega
        have ht9 : to < 400 := by rcases Nat.lt_or_ge to 400 with z | z; exact z; have q := he (by omega); rw [show to = 400 by omega] at hrr; omega
        obtain ⟨ho1, ho2⟩ := hf_odd (T := T) (to := to) (by omega) h5 (by rw [← hrr, hr1])
        refine lv_aload_n hx hb d_De_half_61 rfl (lv_at hl 0 rfl) ?_
        refine ed_pc (pc' := 62) rfl ?_
        refine va_get (D := D) (ci := 2) (v := .ref dw) (C := R_De) (T := T_De) (N := 3) hx hb hts (fun w h => List.mem_cons_of_mem _ (in_De w h)) hown hK hP 0 rfl rfl 0 (by decide) (hts _ (List.mem_cons_of_mem _ tw_378)) (fun _ h9 => h9) rfl d_De_half_62 ?_
        refine lv_aload_n hx hb d_De_half_65 rfl (lv_at hl 0 rfl) ?_
        refine va_get (D := D) (ci := 2) (v := .int (iI ((to : Int)))) (C := R_De) (T := T_De) (N := 3) hx hb hts (fun w h => List.mem_cons_of_mem _ (in_De w h)) hown hK hP 0 rfl rfl 2 (by decide) (hts _ (List.mem_cons_of_mem _ tw_382)) (fun _ h9 => h9) rfl d_De_half_66 ?_
        refine lv_ldc (v := 500000000) hx hb hown (hts _ (List.mem_cons_of_mem _ tw_569)) d_De_half_69 ?_
        refine ed_ti (y := (iI (500000000))) (by decide +kernel) ?_
        refine ed_iast hx hb hK hP hD hS 1 1 rfl rfl (to) (by omega) (by omega) (by decide) d_De_half_71 (fun H locs hP hD hS => ?_)
        have hP : va_P D ecl [(dc, .inr (2, [.ref dw, .int (iI ((fr : Int))), .int (iI ((to : Int)))])), (dw, .inl (cI, 465, .inl (upd h (to) ((iI (500000000))))))] H := hP
        have hD : va_D A [(dc, .inr (2, [.ref dw, .int (iI ((fr : Int))), .int (iI ((to : Int)))])), (dw, .inl (cI, 465, .inl (upd h (to) ((iI (500000000))))))] := hD
        refine lv_aload_n hx hb d_De_half_72 rfl (lv_at hl 0 rfl) ?_
        refine lv_dup hx hb d_De_half_73 rfl ?_
        refine va_get (D := D) (ci := 2) (v := .int (iI ((to : Int)))) (C := R_De) (T := T_De) (N := 3) hx hb hts (fun w h => List.mem_cons_of_mem _ (in_De w h)) hown hK hP 0 rfl rfl 2 (by decide) (hts _ (List.mem_cons_of_mem _ tw_382)) (fun _ h9 => h9) rfl d_De_half_74 ?_
        refine ed_pc (pc' := 77) rfl ?_
        refine lv_iconst (v := iI 1) hx hb d_De_half_77 rfl ?_
        refine ed_iadd hx hb d_De_half_78 ?_
        refine va_put (D := D) (ci := 2) (v := .int (iI (((to : Int)) + (1)))) (ty := .int) (C := R_De) (T := T_De) (N := 3) hx hb hts (fun w h => List.mem_cons_of_mem _ (in_De w h)) y_De t_De n_De hown hK hP hD hS 0 rfl rfl 2 (by decide) (hts _ (List.mem_cons_of_mem _ tw_382)) (fun _ h9 => h9) rfl (by decide +kernel) rfl rfl (Nat.le_of_ble_eq_true rfl) d_De_half_79 (fun H locs hP hD hS => ?_)
        have hP : va_P D ecl [(dc, .inr (2, [.ref dw, .int (iI ((fr : Int))), .int (iI (((to : Int)) + (1)))])), (dw, .inl (cI, 465, .inl (upd h (to) ((iI (500000000))))))] H := hP
        have hD : va_D A [(dc, .inr (2, [.ref dw, .int (iI ((fr : Int))), .int (iI (((to : Int)) + (1)))])), (dw, .inl (cI, 465, .inl (upd h (to) ((iI (500000000))))))] := hD
        have hwaf : wa_ok (upd h (to) (iI (500000000))) (T / 2) := by
          intro k hk
          rcases Nat.lt_trichotomy k to with q | q | q
          · rw [pk_un (by omega)]; exact hlo k q
          · rw [q, pk_us, ho2]; rfl
          · rw [pk_un (by omega), hhi k hk (by omega), wq_lo h5 (by omega) hk, wq_lo ho1 (by omega) hk]
        have hlmf := ho1
        have hl := lv_sub hl [0] rfl
        exact L82 _ (_) (fr) (to + 1) _ _ ls H locs rfl (rfl) (by omega) (hwaf) (by omega) (Nat.lt_of_le_of_lt (Nat.div_le_self _ _) h4) (hlmf) (by omega) hl hP hD hS
    · skip
      refine ed_pc (pc' := 15) rfl ?_
      obtain ⟨w0, hw0⟩ : ∃ w0 : Nat, w0 = wq T j := ⟨_, rfl⟩
      obtain ⟨w1, hw1⟩ : ∃ w1 : Nat, w1 = wq (T / 2) j := ⟨_, rfl⟩
      have hw9 := wq_lt T j
      rw [← hw0] at hw9
      have hr2 : rr < 2 := by rw [hrr]; exact Nat.mod_lt _ (by decide)
      have hwe : (w0 + rr * 1000000000) / 2 = w1 := by rw [hw0, hrr, hw1]; exact hf_w (by omega)
      refine lv_aload_n hx hb d_De_half_15 rfl (lv_at hl 0 rfl) ?_
      refine va_get (D := D) (ci := 2) (v := .ref dw) (C := R_De) (T := T_De) (N := 3) hx hb hts (fun w h => List.mem_cons_of_mem _ (in_De w h)) hown hK hP 0 rfl rfl 0 (by decide) (hts _ (List.mem_cons_of_mem _ tw_378)) (fun _ h9 => h9) rfl d_De_half_16 ?_
      refine lv_iload_n hx hb d_De_half_19 rfl (lv_at hl 2 rfl) ?_
      refine ed_pc (pc' := 20) rfl ?_
      refine ed_iald (y := (w0 : Int)) hx hb hK hP 1 1 rfl rfl (j) (by omega) (by omega) (by decide) (by rw [hw0]; exact hhi j (by omega) (Nat.le_refl _)) d_De_half_20 ?_
      refine ed_i2l hx hb d_De_half_21 (by omega) ?_
      refine lv_iload_n hx hb d_De_half_22 rfl (lv_at hl 1 rfl) ?_
      refine ed_i2l hx hb d_De_half_23 (by omega) ?_
      refine lv_ldc2 (v := 1000000000) hx hb hown (hts _ (List.mem_cons_of_mem _ tw_567)) d_De_half_24 ?_
      refine ed_tl (y := (jI (1000000000))) (by decide +kernel) ?_
      refine ed_lmul hx hb d_De_half_27 ?_
      refine ed_ladd hx hb d_De_half_28 ?_
      refine lv_ldc2 (v := 2) hx hb hown (hts _ (List.mem_cons_of_mem _ tw_568)) d_De_half_29 ?_
      refine ed_tl (y := (jI (2))) (by decide +kernel) ?_
      refine ed_pc (pc' := 32) rfl ?_
      refine ed_ldiv hx hb d_De_half_32 (by omega) (by omega) (by omega) ?_
      refine ed_l2i hx hb d_De_half_33 ?_
      refine ed_tz (y := ((w1 : Nat) : Int)) (by omega) ?_
      refine lv_istore_n hx hb d_De_half_34 rfl hl (by decide) rfl (fun ls hl => ?_)
      have hl : lv_has ls 4 [(3, .int (iI (((w1 : Nat) : Int)))), (0, .ref dc), (1, .int (iI (zr))), (2, .int (iI (zj)))] := hl
      refine lv_aload_n hx hb d_De_half_35 rfl (lv_at hl 1 rfl) ?_
      refine va_get (D := D) (ci := 2) (v := .ref dw) (C := R_De) (T := T_De) (N := 3) hx hb hts (fun w h => List.mem_cons_of_mem _ (in_De w h)) hown hK hP 0 rfl rfl 0 (by decide) (hts _ (List.mem_cons_of_mem _ tw_378)) (fun _ h9 => h9) rfl d_De_half_36 ?_
      refine lv_iload_n hx hb d_De_half_39 rfl (lv_at hl 3 rfl) ?_
      refine ed_iald (y := (w0 : Int)) hx hb hK hP 1 1 rfl rfl (j) (by omega) (by omega) (by decide) (by rw [hw0]; exact hhi j (by omega) (Nat.le_refl _)) d_De_half_40 ?_
      refine lv_iconst (v := iI 1) hx hb d_De_half_41 rfl ?_
      refine ed_pc (pc' := 42) rfl ?_
      refine lv_iand hx hb d_De_half_42 ?_
      refine ed_ti (y := (iI (((w0 % 2 : Nat) : Int)))) (and_i1 (by omega)) ?_
      refine lv_istore_n hx hb d_De_half_43 rfl hl (by decide) rfl (fun ls hl => ?_)
      have hl : lv_has ls 4 [(1, .int (iI (((w0 % 2 : Nat) : Int)))), (3, .int (iI (((w1 : Nat) : Int)))), (0, .ref dc), (2, .int (iI (zj)))] := hl
      refine lv_aload_n hx hb d_De_half_44 rfl (lv_at hl 2 rfl) ?_
      refine va_get (D := D) (ci := 2) (v := .ref dw) (C := R_De) (T := T_De) (N := 3) hx hb hts (fun w h => List.mem_cons_of_mem _ (in_De w h)) hown hK hP 0 rfl rfl 0 (by decide) (hts _ (List.mem_cons_of_mem _ tw_378)) (fun _ h9 => h9) rfl d_De_half_45 ?_
      refine lv_iload_n hx hb d_De_half_48 rfl (lv_at hl 3 rfl) ?_
      refine lv_iload_n hx hb d_De_half_49 rfl (lv_at hl 1 rfl) ?_
      refine ed_iast hx hb hK hP hD hS 1 1 rfl rfl (j) (by omega) (by omega) (by decide) d_De_half_50 (fun H locs hP hD hS => ?_)
      have hP : va_P D ecl [(dc, .inr (2, [.ref dw, .int (iI ((fr : Int))), .int (iI ((to : Int)))])), (dw, .inl (cI, 465, .inl (upd h (j) ((iI (((w1 : Nat) : Int)))))))] H := hP
      have hD : va_D A [(dc, .inr (2, [.ref dw, .int (iI ((fr : Int))), .int (iI ((to : Int)))])), (dw, .inl (cI, 465, .inl (upd h (j) ((iI (((w1 : Nat) : Int)))))))] := hD
      refine lv_iinc (k := 3) (v := iI (zj + 1)) hx hb d_De_half_51 hl rfl (iI_add _ _) (by decide) rfl (fun ls hl => ?_)
      have hl : lv_has ls 4 [(2, .int (iI (zj + 1))), (1, .int (iI (((w0 % 2 : Nat) : Int)))), (3, .int (iI (((w1 : Nat) : Int)))), (0, .ref dc)] := hl
      refine ed_pc (pc' := 54) rfl ?_
      refine lv_goto (tgt := 7) hx hb d_De_half_54 rfl ?_
      have hl := lv_sub hl [3, 1, 0] rfl
      exact ih _ (by omega) (j + 1) (upd h j (iI ((w1 : Nat) : Int))) (w0 % 2) _ _ ls H locs rfl (by omega) (rfl) (by rw [hw0]; exact hf_r (by omega)) (by omega) (fun k hk => by by_cases q : k = j; rw [q, pk_us, hw1]; rw [pk_un q]; exact hlo k (by omega)) (fun k hk hk2 => by rw [pk_un (by omega)]; exact hhi k hk (by omega)) hl hP hD hS
  refine lv_iconst (v := iI 0) hx hb d_De_half_0 rfl ?_
  refine lv_istore_n hx hb d_De_half_1 rfl hl (by decide) rfl (fun ls hl => ?_)
  have hl : lv_has ls 4 [(1, .int (iI (0))), (0, .ref dc)] := hl
  refine lv_aload_n hx hb d_De_half_2 rfl (lv_at hl 1 rfl) ?_
  refine va_get (D := D) (ci := 2) (v := .int (iI ((fr : Int)))) (C := R_De) (T := T_De) (N := 3) hx hb hts (fun w h => List.mem_cons_of_mem _ (in_De w h)) hown hK hP 0 rfl rfl 1 (by decide) (hts _ (List.mem_cons_of_mem _ tw_380)) (fun _ h9 => h9) rfl d_De_half_3 ?_
  refine lv_istore_n hx hb d_De_half_6 rfl hl (by decide) rfl (fun ls hl => ?_)
  have hl : lv_has ls 4 [(2, .int (iI ((fr : Int)))), (1, .int (iI (0))), (0, .ref dc)] := hl
  have hl := lv_sub hl [2, 1, 0] rfl
  exact L7 _ (fr) (f) (0) _ _ ls s.heap [] rfl (rfl) (rfl) (by rw [Nat.div_eq_of_lt h4]) (by omega) (fun k hk => by rw [h6 k (by omega), wq_hi h4 hk (by omega), wq_hi (Nat.lt_of_le_of_lt (Nat.div_le_self T 2) h4) hk (by omega)]) (fun k hk _ => h6 k hk) hl hP hD hS
set_option maxHeartbeats 4000000 in
set_option maxRecDepth 100000 in
theorem c_De_twice (l : Launch) (D : va_G) (cB cI cJ : ClassId) (t5 : Nat) (ad : Nat → Nat) (dc dw fr to : Nat) (f : Nat → Int32) (T : Nat) (hde : de_ok f fr to T) (hfr : 0 < fr) : c_V l m_De_twice (Cond.code m_De_twice b_De_twice 4 none :: gw) (rm_ 0 0) (eX t5 ad) D ecl (tyS cB cI cJ) [.ref dc] [(dc, .inr (2, [.ref dw, .int (iI ((fr : Int))), .int (iI ((to : Int)))])), (dw, .inl (cI, 465, .inl f))] (fun u => ∃ (f' : Nat → Int32) (fr' to' : Nat), de_ok f' fr' to' (2 * T) ∧ u = [(dc, .inr (2, [.ref dw, .int (iI ((fr' : Int))), .int (iI ((to' : Int)))])), (dw, .inl (cI, 465, .inl f'))]) 0 0 := by
  intro sz0
  refine Met.ofW (cc := b_De_twice) (maxL := 4) (ret := none) (by decide) rfl ?_
  intro p e s m args below meth c s₁ B hml hv
  obtain ⟨rfl, hsz, hP, hK, hD0, hE⟩ := hv
  have hx := B.exec
  have hb := B.bytes
  have hr := B.returns
  have hts := atoms_spec (ws := Cond.code m_De_twice b_De_twice 4 none :: gw) B.pre
  have hown : s.vm.findClass R_De = some m.cls := findClass_of_methodNamed B.named
  have hlocks := B.notSynchronized
  subst hsz
  have hD := hD0.self (sz := s.heap.size)
  generalize hAe : va_A [(dc, .inr (2, [.ref dw, .int (iI ((fr : Int))), .int (iI ((to : Int)))])), (dw, .inl (cI, 465, .inl f))] s.heap.size = A at hD hE ⊢
  have hA : ∀ q : Nat, s.heap.size ≤ q → A q := fun q h => by rw [← hAe]; exact Or.inr h
  have hS : va_S A s.heap s.heap [] := va_S.rf
  have hl := lv_entry ([.ref dc]) (n := 4) (Nat.le_of_ble_eq_true rfl)
  rw [lg_entry_eq]
  generalize (lg_sl ([.ref dc]) ++ List.replicate (4 - (lg_sl ([.ref dc])).length) Slot.unset).toArray = ls at hl ⊢
  have hl : lv_has ls 4 [(0, .ref dc)] := hl
  obtain ⟨h1, h2, h3, h4, h5, h6⟩ := hde
  have hTp : 0 < 2 * T := by
    have q1 := pB_pos (464 - fr)
    omega
  have L82 : ∀ (n9 : Nat) (h : Nat → Int32) (fq : Nat) (tq : Nat) (zf : Int) (zt : Int) (ls : Array Slot) (H : Heap) (locs : List Loc), tq = n9 → (zf = (fq : Int)) → (zt = (tq : Int)) → (wa_ok h (2 * T)) → (tq ≤ 400) → (2 * T < 1000000000 ^ (465 - fq)) → (1000000000 ^ (464 - fq) ≤ 2 * T) → (2 * T % 1000000000 ^ (465 - tq) = 0) → (fq < tq) → lv_has ls 4 [(0, .ref dc)] → va_P D ecl [(dc, .inr (2, [.ref dw, .int (iI (zf)), .int (iI (zt))])), (dw, .inl (cI, 465, .inl h))] H → va_D A [(dc, .inr (2, [.ref dw, .int (iI (zf)), .int (iI (zt))])), (dw, .inl (cI, 465, .inl h))] → va_S A s.heap H locs → W p l e (headSpec (Cond.code m_De_twice b_De_twice 4 none :: gw) (rm_ 0 0)).room s m ([.ref dc] : List Value).toArray below meth c H locs 0 0 (MQ below (va_Qv (fun u => ∃ (f' : Nat → Int32) (fr' to' : Nat), de_ok f' fr' to' (2 * T) ∧ u = [(dc, .inr (2, [.ref dw, .int (iI ((fr' : Int))), .int (iI ((to' : Int)))])), (dw, .inl (cI, 465, .inl f'))]) (c_B D ecl A) A) ([.ref dc] : List Value).toArray s 0 0 A) (F0 m 82 ls []) := by
    intro n9
    induction n9 using Nat.strongRecOn with
    | ind n9 ih =>
    intro h fq tq zf zt ls H locs hn9 hzf hzt hwa ht4 hup hge hlm hlt hl hP hD hS
    refine lv_aload_n hx hb d_De_twice_82 rfl (lv_at hl 0 rfl) ?_
    refine va_get (D := D) (ci := 2) (v := .int (iI (zt))) (C := R_De) (T := T_De) (N := 3) hx hb hts (fun w h => List.mem_cons_of_mem _ (in_De w h)) hown hK hP 0 rfl rfl 2 (by decide) (hts _ (List.mem_cons_of_mem _ tw_382)) (fun _ h9 => h9) rfl d_De_twice_83 ?_
    refine lv_aload_n hx hb d_De_twice_86 rfl (lv_at hl 0 rfl) ?_
    refine va_get (D := D) (ci := 2) (v := .int (iI (zf))) (C := R_De) (T := T_De) (N := 3) hx hb hts (fun w h => List.mem_cons_of_mem _ (in_De w h)) hown hK hP 0 rfl rfl 1 (by decide) (hts _ (List.mem_cons_of_mem _ tw_380)) (fun _ h9 => h9) rfl d_De_twice_87 ?_
    refine ed_icmp_le (tgt := 120) hx hb d_De_twice_90 rfl (by omega) (by omega) (fun h_1 => ?_) (fun h_1 => ?_)
    · exact absurd h_1 (by omega)
    · skip
      refine ed_pc (pc' := 93) rfl ?_
      obtain ⟨w0, hw0⟩ : ∃ w0 : Nat, w0 = wq (2 * T) (tq - 1) := ⟨_, rfl⟩
      have hw9 := wq_lt (2 * T) (tq - 1)
      rw [← hw0] at hw9
      refine lv_aload_n hx hb d_De_twice_93 rfl (lv_at hl 0 rfl) ?_
      refine va_get (D := D) (ci := 2) (v := .ref dw) (C := R_De) (T := T_De) (N := 3) hx hb hts (fun w h => List.mem_cons_of_mem _ (in_De w h)) hown hK hP 0 rfl rfl 0 (by decide) (hts _ (List.mem_cons_of_mem _ tw_378)) (fun _ h9 => h9) rfl d_De_twice_94 ?_
      refine ed_pc (pc' := 97) rfl ?_
      refine lv_aload_n hx hb d_De_twice_97 rfl (lv_at hl 0 rfl) ?_
      refine va_get (D := D) (ci := 2) (v := .int (iI (zt))) (C := R_De) (T := T_De) (N := 3) hx hb hts (fun w h => List.mem_cons_of_mem _ (in_De w h)) hown hK hP 0 rfl rfl 2 (by decide) (hts _ (List.mem_cons_of_mem _ tw_382)) (fun _ h9 => h9) rfl d_De_twice_98 ?_
      refine lv_iconst (v := iI 1) hx hb d_De_twice_101 rfl ?_
      refine ed_isub hx hb d_De_twice_102 ?_
      refine ed_iald (y := (w0 : Int)) hx hb hK hP 1 1 rfl rfl (tq - 1) (by omega) (by omega) (by decide) (by rw [hw0]; exact hwa (tq - 1) (by omega)) d_De_twice_103 ?_
      refine ed_if_ne (tgt := 120) hx hb d_De_twice_104 rfl (by omega) (fun h_2 => ?_) (fun h_2 => ?_)
      · skip
        refine ed_pc (pc' := 120) rfl ?_
        subst hzf
        subst hzt
        exact W.vret hx hb hr (fun t9 ht9 hW9 => ⟨⟨[(dc, .inr (2, [.ref dw, .int (iI ((fq : Int))), .int (iI ((tq : Int)))])), (dw, .inl (cI, 465, .inl h))], rfl, ⟨h, fq, tq, ⟨hlt, ht4, hge, hup, hlm, hwa⟩, rfl⟩, by rw [ht9]; exact hP, hD⟩, hS.F ht9⟩) hS.2.2 d_De_twice_120
      · skip
        refine ed_pc (pc' := 107) rfl ?_
        refine lv_aload_n hx hb d_De_twice_107 rfl (lv_at hl 0 rfl) ?_
        refine lv_dup hx hb d_De_twice_108 rfl ?_
        refine ed_pc (pc' := 109) rfl ?_
        refine va_get (D := D) (ci := 2) (v := .int (iI (zt))) (C := R_De) (T := T_De) (N := 3) hx hb hts (fun w h => List.mem_cons_of_mem _ (in_De w h)) hown hK hP 0 rfl rfl 2 (by decide) (hts _ (List.mem_cons_of_mem _ tw_382)) (fun _ h9 => h9) rfl d_De_twice_109 ?_
        refine lv_iconst (v := iI 1) hx hb d_De_twice_112 rfl ?_
        refine ed_isub hx hb d_De_twice_113 ?_
        refine va_put (D := D) (ci := 2) (v := .int (iI ((zt) - (1)))) (ty := .int) (C := R_De) (T := T_De) (N := 3) hx hb hts (fun w h => List.mem_cons_of_mem _ (in_De w h)) y_De t_De n_De hown hK hP hD hS 0 rfl rfl 2 (by decide) (hts _ (List.mem_cons_of_mem _ tw_382)) (fun _ h9 => h9) rfl (by decide +kernel) rfl rfl (Nat.le_of_ble_eq_true rfl) d_De_twice_114 (fun H locs hP hD hS => ?_)
        have hP : va_P D ecl [(dc, .inr (2, [.ref dw, .int (iI (zf)), .int (iI ((zt) - (1)))])), (dw, .inl (cI, 465, .inl h))] H := hP
        have hD : va_D A [(dc, .inr (2, [.ref dw, .int (iI (zf)), .int (iI ((zt) - (1)))])), (dw, .inl (cI, 465, .inl h))] := hD
        refine lv_goto (tgt := 82) hx hb d_De_twice_117 rfl ?_
        have hl := lv_sub hl [0] rfl
        exact ih _ (by omega) (h) (fq) (tq - 1) _ _ ls H locs rfl (hzf) (by omega) (hwa) (by omega) (hup) (hge) (lw_z (by omega) hlm (by omega)) (tp_lt hTp (by omega) hup (lw_z (by omega) hlm (by omega))) hl hP hD hS
  have L9 : ∀ (n9 : Nat) (j : Nat) (h : Nat → Int32) (cn : Nat) (zk : Int) (zc : Int) (ls : Array Slot) (H : Heap) (locs : List Loc), j = n9 → (zk = (j : Int) - 1) → (zc = (cn : Int)) → (cn = T % 1000000000 ^ (465 - j) * 2 / 1000000000 ^ (465 - j)) → (fr ≤ j ∧ j ≤ to) → (∀ k, k < 465 → j ≤ k → h k = iI ((wq (2 * T) k : Nat) : Int)) → (∀ k, k < j → h k = iI ((wq T k : Nat) : Int)) → lv_has ls 4 [(0, .ref dc), (1, .int (iI (zc))), (2, .int (iI (zk)))] → va_P D ecl [(dc, .inr (2, [.ref dw, .int (iI ((fr : Int))), .int (iI ((to : Int)))])), (dw, .inl (cI, 465, .inl h))] H → va_D A [(dc, .inr (2, [.ref dw, .int (iI ((fr : Int))), .int (iI ((to : Int)))])), (dw, .inl (cI, 465, .inl h))] → va_S A s.heap H locs → W p l e (headSpec (Cond.code m_De_twice b_De_twice 4 none :: gw) (rm_ 0 0)).room s m ([.ref dc] : List Value).toArray below meth c H locs 0 0 (MQ below (va_Qv (fun u => ∃ (f' : Nat → Int32) (fr' to' : Nat), de_ok f' fr' to' (2 * T) ∧ u = [(dc, .inr (2, [.ref dw, .int (iI ((fr' : Int))), .int (iI ((to' : Int)))])), (dw, .inl (cI, 465, .inl f'))]) (c_B D ecl A) A) ([.ref dc] : List Value).toArray s 0 0 A) (F0 m 9 ls []) := by
    intro n9
    induction n9 using Nat.strongRecOn with
    | ind n9 ih =>
    intro j h cn zk zc ls H locs hn9 hzk hzc hcn hj hhi hlo hl hP hD hS
    refine lv_iload_n hx hb d_De_twice_9 rfl (lv_at hl 2 rfl) ?_
    refine lv_aload_n hx hb d_De_twice_10 rfl (lv_at hl 0 rfl) ?_
    refine va_get (D := D) (ci := 2) (v := .int (iI ((fr : Int)))) (C := R_De) (T := T_De) (N := 3) hx hb hts (fun w h => List.mem_cons_of_mem _ (in_De w h)) hown hK hP 0 rfl rfl 1 (by decide) (hts _ (List.mem_cons_of_mem _ tw_380)) (fun _ h9 => h9) rfl d_De_twice_11 ?_
    refine ed_icmp_lt (tgt := 58) hx hb d_De_twice_14 rfl (by omega) (by omega) (fun h_3 => ?_) (fun h_3 => ?_)
    · skip
      refine ed_pc (pc' := 58) rfl ?_
      have hje : j = fr := by omega
      rw [hje] at hcn hlo hhi
      have hc2 : cn < 2 := by rw [hcn]; exact tw_s _ _
      refine lv_iload_n hx hb d_De_twice_58 rfl (lv_at hl 1 rfl) ?_
      refine ed_if_le (tgt := 82) hx hb d_De_twice_59 rfl (by omega) (fun h_4 => ?_) (fun h_4 => ?_)
      · skip
        refine ed_pc (pc' := 82) rfl ?_
        have htf := tw_g (T := T) (fr := fr) h3 h4 (by rw [← hcn]; omega)
        have hwaf : wa_ok h (2 * T) := by
          intro k hk
          rcases Nat.lt_or_ge k fr with q | q
          · rw [hlo k q, wq_hi h4 q (by omega), wq_hi htf.2 q (by omega)]
          · exact hhi k hk q
        have hl := lv_sub hl [0] rfl
        exact L82 _ (_) (fr) (to) _ _ ls H locs rfl (by omega) (rfl) (hwaf) (by omega) (htf.2) (htf.1) (tw_m h5) (by omega) hl hP hD hS
      · skip
        refine ed_pc (pc' := 62) rfl ?_
        have hc1 : cn = 1 := by omega
        refine lv_aload_n hx hb d_De_twice_62 rfl (lv_at hl 0 rfl) ?_
        refine ed_pc (pc' := 63) rfl ?_
        refine lv_dup hx hb d_De_twice_63 rfl ?_
        refine va_get (D := D) (ci := 2) (v := .int (iI ((fr : Int)))) (C := R_De) (T := T_De) (N := 3) hx hb hts (fun w h => List.mem_cons_of_mem _ (in_De w h)) hown hK hP 0 rfl rfl 1 (by decide) (hts _ (List.mem_cons_of_mem _ tw_380)) (fun _ h9 => h9) rfl d_De_twice_64 ?_
        refine lv_iconst (v := iI 1) hx hb d_De_twice_67 rfl ?_
        refine ed_isub hx hb d_De_twice_68 ?_
        refine va_put (D := D) (ci := 2) (v := .int (iI (((fr : Int)) - (1)))) (ty := .int) (C := R_De) (T := T_De) (N := 3) hx hb hts (fun w h => List.mem_cons_of_mem _ (in_De w h)) y_De t_De n_De hown hK hP hD hS 0 rfl rfl 1 (by decide) (hts _ (List.mem_cons_of_mem _ tw_380)) (fun _ h9 => h9) rfl (by decide +kernel) rfl rfl (Nat.le_of_ble_eq_true rfl) d_De_twice_69 (fun H locs hP hD hS => ?_)
        have hP : va_P D ecl [(dc, .inr (2, [.ref dw, .int (iI (((fr : Int)) - (1))), .int (iI ((to : Int)))])), (dw, .inl (cI, 465, .inl h))] H := hP
        have hD : va_D A [(dc, .inr (2, [.ref dw, .int (iI (((fr : Int)) - (1))), .int (iI ((to : Int)))])), (dw, .inl (cI, 465, .inl h))] := hD
        refine lv_aload_n hx hb d_De_twice_72 rfl (lv_at hl 0 rfl) ?_
        refine va_get (D := D) (ci := 2) (v := .ref dw) (C := R_De) (T := T_De) (N := 3) hx hb hts (fun w h => List.mem_cons_of_mem _ (in_De w h)) hown hK hP 0 rfl rfl 0 (by decide) (hts _ (List.mem_cons_of_mem _ tw_378)) (fun _ h9 => h9) rfl d_De_twice_73 ?_
        refine lv_aload_n hx hb d_De_twice_76 rfl (lv_at hl 0 rfl) ?_
        refine ed_pc (pc' := 77) rfl ?_
        refine va_get (D := D) (ci := 2) (v := .int (iI (((fr : Int)) - (1)))) (C := R_De) (T := T_De) (N := 3) hx hb hts (fun w h => List.mem_cons_of_mem _ (in_De w h)) hown hK hP 0 rfl rfl 1 (by decide) (hts _ (List.mem_cons_of_mem _ tw_380)) (fun _ h9 => h9) rfl d_De_twice_77 ?_
        refine lv_iconst (v := iI 1) hx hb d_De_twice_80 rfl ?_
        refine ed_iast hx hb hK hP hD hS 1 1 rfl rfl (fr - 1) (by omega) (by omega) (by decide) d_De_twice_81 (fun H locs hP hD hS => ?_)
        have hP : va_P D ecl [(dc, .inr (2, [.ref dw, .int (iI (((fr : Int)) - (1))), .int (iI ((to : Int)))])), (dw, .inl (cI, 465, .inl (upd h (fr - 1) ((iI (1))))))] H := hP
        have hD : va_D A [(dc, .inr (2, [.ref dw, .int (iI (((fr : Int)) - (1))), .int (iI ((to : Int)))])), (dw, .inl (cI, 465, .inl (upd h (fr - 1) ((iI (1))))))] := hD
        have htf := tw_f (T := T) (fr := fr) (by omega) h3 h4 (by rw [← hcn, hc1])
        have hwaf : wa_ok (upd h (fr - 1) (iI (1))) (2 * T) := by
          intro k hk
          rcases Nat.lt_trichotomy k (fr - 1) with q | q | q
          · rw [pk_un (by omega), hlo k (by omega), wq_hi h4 (by omega) (by omega), tw_hi h4 (by omega) (by omega)]
          · rw [q, pk_us, tw_t (by omega) h4, ← hcn, hc1]; rfl
          · rw [pk_un (by omega)]; exact hhi k hk (by omega)
        have hl := lv_sub hl [0] rfl
        exact L82 _ (_) (fr - 1) (to) _ _ ls H locs rfl (by omega) (rfl) (hwaf) (by omega) (htf.2) (htf.1) (tw_m h5) (by omega) hl hP hD hS
    · skip
      refine ed_pc (pc' := 17) rfl ?_
      obtain ⟨w0, hw0⟩ : ∃ w0 : Nat, w0 = wq T (j - 1) := ⟨_, rfl⟩
      obtain ⟨w1, hw1⟩ : ∃ w1 : Nat, w1 = wq (2 * T) (j - 1) := ⟨_, rfl⟩
      obtain ⟨c1, hc1⟩ : ∃ c1 : Nat, c1 = T % 1000000000 ^ (465 - (j - 1)) * 2 / 1000000000 ^ (465 - (j - 1)) := ⟨_, rfl⟩
      have hw9 := wq_lt T (j - 1)
      rw [← hw0] at hw9
      have hc2 : cn < 2 := by rw [hcn]; exact tw_s _ _
      have hj6 : 464 - (j - 1) = 465 - j := by omega
      have hwe : (2 * w0 + cn) % 1000000000 = w1 := by have q := tw_w (T := T) (k := j - 1) (by omega); rw [hj6, ← hcn, ← hw0, ← hw1] at q; exact q
      have hce : (2 * w0 + cn) / 1000000000 = c1 := by have q := tw_c (T := T) (k := j - 1) (by omega); rw [hj6, ← hcn, ← hw0, ← hc1] at q; exact q
      refine lv_iconst (v := iI 2) hx hb d_De_twice_17 rfl ?_
      refine lv_aload_n hx hb d_De_twice_18 rfl (lv_at hl 0 rfl) ?_
      refine va_get (D := D) (ci := 2) (v := .ref dw) (C := R_De) (T := T_De) (N := 3) hx hb hts (fun w h => List.mem_cons_of_mem _ (in_De w h)) hown hK hP 0 rfl rfl 0 (by decide) (hts _ (List.mem_cons_of_mem _ tw_378)) (fun _ h9 => h9) rfl d_De_twice_19 ?_
      refine ed_pc (pc' := 22) rfl ?_
      refine lv_iload_n hx hb d_De_twice_22 rfl (lv_at hl 2 rfl) ?_
      refine ed_iald (y := (w0 : Int)) hx hb hK hP 1 1 rfl rfl (j - 1) (by omega) (by omega) (by decide) (by rw [hw0]; exact hlo (j - 1) (by omega)) d_De_twice_23 ?_
      refine ed_imul hx hb d_De_twice_24 ?_
      refine lv_iload_n hx hb d_De_twice_25 rfl (lv_at hl 1 rfl) ?_
      refine ed_iadd hx hb d_De_twice_26 ?_
      refine lv_istore_n hx hb d_De_twice_27 rfl hl (by decide) rfl (fun ls hl => ?_)
      have hl : lv_has ls 4 [(3, .int (iI (((2) * ((w0 : Int))) + (zc)))), (0, .ref dc), (1, .int (iI (zc))), (2, .int (iI (zk)))] := hl
      refine lv_iload_n hx hb d_De_twice_28 rfl (lv_at hl 0 rfl) ?_
      refine lv_ldc (v := 1000000000) hx hb hown (hts _ (List.mem_cons_of_mem _ tw_574)) d_De_twice_29 ?_
      refine ed_ti (y := (iI (1000000000))) (by decide +kernel) ?_
      refine ed_pc (pc' := 31) rfl ?_
      refine ed_icmp_lt (tgt := 38) hx hb d_De_twice_31 rfl (by omega) (by omega) (fun h_5 => ?_) (fun h_5 => ?_)
      · skip
        refine ed_pc (pc' := 38) rfl ?_
        refine lv_iconst (v := iI 0) hx hb d_De_twice_38 rfl ?_
        refine lv_istore_n hx hb d_De_twice_39 rfl hl (by decide) rfl (fun ls hl => ?_)
        have hl : lv_has ls 4 [(1, .int (iI (0))), (3, .int (iI (((2) * ((w0 : Int))) + (zc)))), (0, .ref dc), (2, .int (iI (zk)))] := hl
        refine lv_aload_n hx hb d_De_twice_40 rfl (lv_at hl 2 rfl) ?_
        refine va_get (D := D) (ci := 2) (v := .ref dw) (C := R_De) (T := T_De) (N := 3) hx hb hts (fun w h => List.mem_cons_of_mem _ (in_De w h)) hown hK hP 0 rfl rfl 0 (by decide) (hts _ (List.mem_cons_of_mem _ tw_378)) (fun _ h9 => h9) rfl d_De_twice_41 ?_
        refine lv_iload_n hx hb d_De_twice_44 rfl (lv_at hl 3 rfl) ?_
        refine lv_iload_n hx hb d_De_twice_45 rfl (lv_at hl 1 rfl) ?_
        refine lv_iload_n hx hb d_De_twice_46 rfl (lv_at hl 0 rfl) ?_
        refine ed_pc (pc' := 47) rfl ?_
        refine lv_ldc (v := 1000000000) hx hb hown (hts _ (List.mem_cons_of_mem _ tw_574)) d_De_twice_47 ?_
        refine ed_ti (y := (iI (1000000000))) (by decide +kernel) ?_
        refine ed_imul hx hb d_De_twice_49 ?_
        refine ed_isub hx hb d_De_twice_50 ?_
        refine ed_tz (y := ((w1 : Nat) : Int)) (by omega) ?_
        refine ed_iast hx hb hK hP hD hS 1 1 rfl rfl (j - 1) (by omega) (by omega) (by decide) d_De_twice_51 (fun H locs hP hD hS => ?_)
        have hP : va_P D ecl [(dc, .inr (2, [.ref dw, .int (iI ((fr : Int))), .int (iI ((to : Int)))])), (dw, .inl (cI, 465, .inl (upd h (j - 1) ((iI (((w1 : Nat) : Int)))))))] H := hP
        have hD : va_D A [(dc, .inr (2, [.ref dw, .int (iI ((fr : Int))), .int (iI ((to : Int)))])), (dw, .inl (cI, 465, .inl (upd h (j - 1) ((iI (((w1 : Nat) : Int)))))))] := hD
        refine lv_iinc (k := 3) (v := iI (zk + (-1))) hx hb d_De_twice_52 hl rfl (iI_add _ _) (by decide) rfl (fun ls hl => ?_)
        have hl : lv_has ls 4 [(2, .int (iI (zk + (-1)))), (1, .int (iI (0))), (3, .int (iI (((2) * ((w0 : Int))) + (zc)))), (0, .ref dc)] := hl
        refine lv_goto (tgt := 9) hx hb d_De_twice_55 rfl ?_
        have hl := lv_sub hl [3, 1, 0] rfl
        exact ih _ (by omega) (j - 1) (upd h (j - 1) (iI ((w1 : Nat) : Int))) (c1) _ _ ls H locs rfl (by omega) (by omega) (hc1) (by omega) (fun k hk hk2 => by by_cases q : k = j - 1; rw [q, pk_us, hw1]; rw [pk_un q]; exact hhi k hk (by omega)) (fun k hk => by rw [pk_un (by omega)]; exact hlo k (by omega)) hl hP hD hS
      · skip
        refine ed_pc (pc' := 34) rfl ?_
        refine lv_iconst (v := iI 1) hx hb d_De_twice_34 rfl ?_
        refine lv_goto (tgt := 39) hx hb d_De_twice_35 rfl ?_
        refine lv_istore_n hx hb d_De_twice_39 rfl hl (by decide) rfl (fun ls hl => ?_)
        have hl : lv_has ls 4 [(1, .int (iI (1))), (3, .int (iI (((2) * ((w0 : Int))) + (zc)))), (0, .ref dc), (2, .int (iI (zk)))] := hl
        refine lv_aload_n hx hb d_De_twice_40 rfl (lv_at hl 2 rfl) ?_
        refine va_get (D := D) (ci := 2) (v := .ref dw) (C := R_De) (T := T_De) (N := 3) hx hb hts (fun w h => List.mem_cons_of_mem _ (in_De w h)) hown hK hP 0 rfl rfl 0 (by decide) (hts _ (List.mem_cons_of_mem _ tw_378)) (fun _ h9 => h9) rfl d_De_twice_41 ?_
        refine lv_iload_n hx hb d_De_twice_44 rfl (lv_at hl 3 rfl) ?_
        refine lv_iload_n hx hb d_De_twice_45 rfl (lv_at hl 1 rfl) ?_
        refine ed_pc (pc' := 46) rfl ?_
        refine lv_iload_n hx hb d_De_twice_46 rfl (lv_at hl 0 rfl) ?_
        refine lv_ldc (v := 1000000000) hx hb hown (hts _ (List.mem_cons_of_mem _ tw_574)) d_De_twice_47 ?_
        refine ed_ti (y := (iI (1000000000))) (by decide +kernel) ?_
        refine ed_imul hx hb d_De_twice_49 ?_
        refine ed_isub hx hb d_De_twice_50 ?_
        refine ed_tz (y := ((w1 : Nat) : Int)) (by omega) ?_
        refine ed_iast hx hb hK hP hD hS 1 1 rfl rfl (j - 1) (by omega) (by omega) (by decide) d_De_twice_51 (fun H locs hP hD hS => ?_)
        have hP : va_P D ecl [(dc, .inr (2, [.ref dw, .int (iI ((fr : Int))), .int (iI ((to : Int)))])), (dw, .inl (cI, 465, .inl (upd h (j - 1) ((iI (((w1 : Nat) : Int)))))))] H := hP
        have hD : va_D A [(dc, .inr (2, [.ref dw, .int (iI ((fr : Int))), .int (iI ((to : Int)))])), (dw, .inl (cI, 465, .inl (upd h (j - 1) ((iI (((w1 : Nat) : Int)))))))] := hD
        refine lv_iinc (k := 3) (v := iI (zk + (-1))) hx hb d_De_twice_52 hl rfl (iI_add _ _) (by decide) rfl (fun ls hl => ?_)
        have hl : lv_has ls 4 [(2, .int (iI (zk + (-1)))), (1, .int (iI (1))), (3, .int (iI (((2) * ((w0 : Int))) + (zc)))), (0, .ref dc)] := hl
        refine lv_goto (tgt := 9) hx hb d_De_twice_55 rfl ?_
        have hl := lv_sub hl [3, 1, 0] rfl
        exact ih _ (by omega) (j - 1) (upd h (j - 1) (iI ((w1 : Nat) : Int))) (c1) _ _ ls H locs rfl (by omega) (by omega) (hc1) (by omega) (fun k hk hk2 => by by_cases q : k = j - 1; rw [q, pk_us, hw1]; rw [pk_un q]; exact hhi k hk (by omega)) (fun k hk => by rw [pk_un (by omega)]; exact hlo k (by omega)) hl hP hD hS
  refine lv_iconst (v := iI 0) hx hb d_De_twice_0 rfl ?_
  refine lv_istore_n hx hb d_De_twice_1 rfl hl (by decide) rfl (fun ls hl => ?_)
  have hl : lv_has ls 4 [(1, .int (iI (0))), (0, .ref dc)] := hl
  refine lv_aload_n hx hb d_De_twice_2 rfl (lv_at hl 1 rfl) ?_
  refine va_get (D := D) (ci := 2) (v := .int (iI ((to : Int)))) (C := R_De) (T := T_De) (N := 3) hx hb hts (fun w h => List.mem_cons_of_mem _ (in_De w h)) hown hK hP 0 rfl rfl 2 (by decide) (hts _ (List.mem_cons_of_mem _ tw_382)) (fun _ h9 => h9) rfl d_De_twice_3 ?_
  refine lv_iconst (v := iI 1) hx hb d_De_twice_6 rfl ?_
  refine ed_isub hx hb d_De_twice_7 ?_
  refine lv_istore_n hx hb d_De_twice_8 rfl hl (by decide) rfl (fun ls hl => ?_)
  have hl : lv_has ls 4 [(2, .int (iI (((to : Int)) - (1)))), (1, .int (iI (0))), (0, .ref dc)] := hl
  have hl := lv_sub hl [2, 1, 0] rfl
  exact L9 _ (to) (f) (0) _ _ ls s.heap [] rfl (by omega) (rfl) (by rw [h5]; simp) (by omega) (fun k hk hk2 => by rw [h6 k hk, wq_lo h5 hk2 hk, wq_lo (tw_m h5) hk2 hk]) (fun k hk => h6 k (by omega)) hl hP hD hS
