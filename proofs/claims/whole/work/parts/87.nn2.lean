set_option maxHeartbeats 4000000 in
set_option maxRecDepth 100000 in
theorem c_Mo_nearest (l : Launch) (D : va_G) (cB cI cJ : ClassId) (t5 : Nat) (ad : Nat → Nat) (mo nb nd un ov xx dc : Nat) (d : Nat → Int32) (pt zl th pw zk : Int) (ma : Int64) (zz : Int) (X kf dw fr to : Nat) (f : Nat → Int32) (hzz : iR zz) (hkf9 : kf = if zz = 0 then 0 else 1) (hnm : nm_ok d X) (hpt : -9000000 ≤ pt ∧ pt ≤ 9000000) (hzl : zl = 0 ∨ zl = 1) (hdz0 : dz_ok f fr to) : c_L l m_Mo_nearest (Cond.code m_Mo_nearest b_Mo_nearest 12 (some .long) :: gw) (rm_ 3 63) (eX t5 ad) D ecl (tyS cB cI cJ) [.ref mo, .int (iI (zz))] [(mo, .inr (4, [.ref nb, .ref un, .ref ov, .ref xx, .ref dc, .int (iI (zl)), .int (iI (th)), .long (ma), .int (iI (pw)), .int (iI (zk))])), (nb, .inr (3, [.ref nd, .int (iI (((dl X : Nat) : Int))), .int (iI (pt))])), (nd, .inl (cB, 4200, .inl d)), (dc, .inr (2, [.ref dw, .int (iI ((fr : Int))), .int (iI ((to : Int)))])), (dw, .inl (cI, 465, .inl f))] (fun r u => (∃ rn : Nat, r = jI (rn : Int) ∧ NR (fbz kf + 1) (ifz kf) (nP X (pt - ((dl X : Nat) : Int)) kf) (nM (pt - ((dl X : Nat) : Int))) (zl = 1) rn) ∧ ∃ (f' : Nat → Int32) (fr' to' : Nat), dz_ok f' fr' to' ∧ u = [(mo, .inr (4, [.ref nb, .ref un, .ref ov, .ref xx, .ref dc, .int (iI (zl)), .int (iI (0)), .long (ma), .int (iI (pw)), .int (iI (zk))])), (nb, .inr (3, [.ref nd, .int (iI (((dl X : Nat) : Int))), .int (iI (pt))])), (nd, .inl (cB, 4200, .inl d)), (dc, .inr (2, [.ref dw, .int (iI ((fr' : Int))), .int (iI ((to' : Int)))])), (dw, .inl (cI, 465, .inl f'))]) 0 0 := by
  intro sz0
  refine Met.ofW (cc := b_Mo_nearest) (maxL := 12) (ret := (some .long)) (by decide) rfl ?_
  intro p e s m args below meth c s₁ B hml hv
  obtain ⟨rfl, hsz, hP, hK, hD0, hE⟩ := hv
  have hx := B.exec
  have hb := B.bytes
  have hr := B.returns
  have hts := atoms_spec (ws := Cond.code m_Mo_nearest b_Mo_nearest 12 (some .long) :: gw) B.pre
  have hown : s.vm.findClass R_Mo = some m.cls := findClass_of_methodNamed B.named
  have hlocks := B.notSynchronized
  subst hsz
  have hD := hD0.self (sz := s.heap.size)
  generalize hAe : va_A [(mo, .inr (4, [.ref nb, .ref un, .ref ov, .ref xx, .ref dc, .int (iI (zl)), .int (iI (th)), .long (ma), .int (iI (pw)), .int (iI (zk))])), (nb, .inr (3, [.ref nd, .int (iI (((dl X : Nat) : Int))), .int (iI (pt))])), (nd, .inl (cB, 4200, .inl d)), (dc, .inr (2, [.ref dw, .int (iI ((fr : Int))), .int (iI ((to : Int)))])), (dw, .inl (cI, 465, .inl f))] s.heap.size = A at hD hE ⊢
  have hA : ∀ q : Nat, s.heap.size ≤ q → A q := fun q h => by rw [← hAe]; exact Or.inr h
  have hS : va_S A s.heap s.heap [] := va_S.rf
  have hl := lv_entry ([.ref mo, .int (iI (zz))]) (n := 12) (Nat.le_of_ble_eq_true rfl)
  rw [lg_entry_eq]
  generalize (lg_sl ([.ref mo, .int (iI (zz))]) ++ List.replicate (12 - (lg_sl ([.ref mo, .int (iI (zz))])).length) Slot.unset).toArray = ls at hl ⊢
  have hl : lv_has ls 12 [(0, .ref mo), (1, .int (iI (zz)))] := hl
  have hkf : kf < 2 := by rw [hkf9]; split <;> decide
  have hz := fz_all kf hkf
  obtain ⟨hX12, hXr, hXg⟩ := hnm
  have hp2 : 2 ^ (fbz kf + 1) = 2 ^ fbz kf * 2 := Nat.pow_succ ..
  have hp52 : 2 ^ fbz kf ≤ 4503599627370496 := by rcases hz with z | z <;> rw [z.1] <;> decide
  have hpp := p2_pos (fbz kf)
  obtain ⟨cz, hcz⟩ : ∃ cz : Nat, cz = (pt + 3780).toNat := ⟨_, rfl⟩
  obtain ⟨T0, hT0⟩ : ∃ T0 : Nat, T0 = X * 10 ^ (cz - dl X) := ⟨_, rfl⟩
  have hifz := ifz_eq kf hkf
  have hMp : 0 < (nM (pt - ((dl X : Nat) : Int))) := nM_pos _
  have L343 : ∀ (m1 : Nat) (E1 : Nat) (R0 : Nat) (h : Nat → Int32) (fq : Nat) (tq : Nat) (z7 : Int) (z8 : Int) (ls : Array Slot) (H : Heap) (locs : List Loc), (z7 = lez kf + (E1 : Int)) → (z8 = (m1 : Int)) → (R0 = E1 * 2 ^ fbz kf + m1) → (m1 < 2 ^ (fbz kf + 1)) → (m1 < 2 ^ fbz kf → E1 = 0) → (E1 ≤ 5000) → (NR (fbz kf + 1) (ifz kf) (nP X (pt - ((dl X : Nat) : Int)) kf) (nM (pt - ((dl X : Nat) : Int))) (zl = 1) (min (ifz kf) R0)) → (dz_ok h fq tq) → lv_has ls 12 [(0, .ref mo), (2, .long (jI (((ifz kf : Nat) : Int)))), (4, .int (iI (((fbz kf + 1 : Nat) : Int)))), (5, .int (iI (lez kf))), (6, .int (iI (lez kf + ((jz kf : Nat) : Int) - 1))), (7, .int (iI (z7))), (8, .long (jI (z8)))] → va_P D ecl [(mo, .inr (4, [.ref nb, .ref un, .ref ov, .ref xx, .ref dc, .int (iI (zl)), .int (iI (0)), .long (ma), .int (iI (pw)), .int (iI (zk))])), (nb, .inr (3, [.ref nd, .int (iI (((dl X : Nat) : Int))), .int (iI (pt))])), (nd, .inl (cB, 4200, .inl d)), (dc, .inr (2, [.ref dw, .int (iI ((fq : Int))), .int (iI ((tq : Int)))])), (dw, .inl (cI, 465, .inl h))] H → va_D A [(mo, .inr (4, [.ref nb, .ref un, .ref ov, .ref xx, .ref dc, .int (iI (zl)), .int (iI (0)), .long (ma), .int (iI (pw)), .int (iI (zk))])), (nb, .inr (3, [.ref nd, .int (iI (((dl X : Nat) : Int))), .int (iI (pt))])), (nd, .inl (cB, 4200, .inl d)), (dc, .inr (2, [.ref dw, .int (iI ((fq : Int))), .int (iI ((tq : Int)))])), (dw, .inl (cI, 465, .inl h))] → va_S A s.heap H locs → W p l e (headSpec (Cond.code m_Mo_nearest b_Mo_nearest 12 (some .long) :: gw) (rm_ 3 63)).room s m ([.ref mo, .int (iI (zz))] : List Value).toArray below meth c H locs 0 0 (MQ below (va_Ql (fun r u => (∃ rn : Nat, r = jI (rn : Int) ∧ NR (fbz kf + 1) (ifz kf) (nP X (pt - ((dl X : Nat) : Int)) kf) (nM (pt - ((dl X : Nat) : Int))) (zl = 1) rn) ∧ ∃ (f' : Nat → Int32) (fr' to' : Nat), dz_ok f' fr' to' ∧ u = [(mo, .inr (4, [.ref nb, .ref un, .ref ov, .ref xx, .ref dc, .int (iI (zl)), .int (iI (0)), .long (ma), .int (iI (pw)), .int (iI (zk))])), (nb, .inr (3, [.ref nd, .int (iI (((dl X : Nat) : Int))), .int (iI (pt))])), (nd, .inl (cB, 4200, .inl d)), (dc, .inr (2, [.ref dw, .int (iI ((fr' : Int))), .int (iI ((to' : Int)))])), (dw, .inl (cI, 465, .inl f'))]) (c_B D ecl A) A) ([.ref mo, .int (iI (zz))] : List Value).toArray s 0 0 A) (F0 m 343 ls []) := by
    intro m1 E1 R0 h fq tq z7 z8 ls H locs hz7 hz8 hR hm1 hE0 hEb hNR hdz hl hP hD hS
    refine lv_iload hx hb d_Mo_nearest_343 (lv_at hl 5 rfl) ?_
    refine lv_iload hx hb d_Mo_nearest_345 (lv_at hl 4 rfl) ?_
    refine ed_icmp_le (tgt := 352) hx hb d_Mo_nearest_347 rfl (by omega) (by omega) (fun h_1 => ?_) (fun h_1 => ?_)
    · skip
      refine ed_pc (pc' := 352) rfl ?_
      have hEj : E1 + 1 ≤ jz kf := by omega
      have hRle : R0 ≤ ifz kf := by have q := nt_le (u := 0) hkf hEj hm1 (by decide); rw [Nat.add_zero] at q; rw [hR]; exact q
      rw [Nat.min_eq_right hRle] at hNR
      obtain ⟨EF, hEF⟩ : ∃ EF : Nat, EF = E1 * 2 ^ fbz kf := ⟨_, rfl⟩
      have hEF1 : (E1 + 1) * 2 ^ fbz kf = EF + 2 ^ fbz kf := by rw [Nat.add_mul, Nat.one_mul, ← hEF]
      rw [← hEF] at hR
      have hinf : ifz kf ≤ 9218868437227405312 := by omega
      have hEj2 : (E1 + 1) * 2 ^ fbz kf ≤ jz kf * 2 ^ fbz kf := Nat.mul_le_mul_right _ hEj
      rw [Nat.add_mul, Nat.one_mul] at hifz
      obtain ⟨mq, hmq⟩ : ∃ mq : Nat, mq = m1 / 2 ^ fbz kf := ⟨_, rfl⟩
      have hmqb : mq ≤ m1 := by rw [hmq]; exact Nat.div_le_self _ _
      refine lv_lload hx hb d_Mo_nearest_352 (lv_at hl 6 rfl) ?_
      refine lv_iload hx hb d_Mo_nearest_354 (lv_at hl 2 rfl) ?_
      refine lv_iconst (v := iI 1) hx hb d_Mo_nearest_356 rfl ?_
      refine ed_isub hx hb d_Mo_nearest_357 ?_
      refine ed_tz (y := ((fbz kf : Nat) : Int)) (by omega) ?_
      refine ed_pc (pc' := 358) rfl ?_
      refine lv_lshr (v := (jI ((mq : Int)))) hx hb d_Mo_nearest_358 (by rw [hz8, hmq]; exact sar_l (by omega) (by omega)) ?_
      refine lv_lconst (v := jI 0) hx hb d_Mo_nearest_359 (by decide +kernel) ?_
      refine ed_lif_ne (tgt := 367) hx hb d_Mo_nearest_360 d_Mo_nearest_361 rfl (by omega) (by omega) (fun h_2 => ?_) (fun h_2 => ?_)
      · skip
        refine ed_pc (pc' := 367) rfl ?_
        have hq1 : 2 ^ fbz kf ≤ m1 := by rcases Nat.lt_or_ge m1 (2 ^ fbz kf) with z | z; rw [Nat.div_eq_of_lt z] at hmq; omega; exact z
        have hmod : m1 % 2 ^ fbz kf = m1 - 2 ^ fbz kf := by rw [Nat.mod_eq_sub_mod hq1, Nat.mod_eq_of_lt (by omega)]
        refine lv_iload hx hb d_Mo_nearest_367 (lv_at hl 5 rfl) ?_
        refine lv_iload hx hb d_Mo_nearest_369 (lv_at hl 3 rfl) ?_
        refine ed_isub hx hb d_Mo_nearest_371 ?_
        refine lv_iconst (v := iI 1) hx hb d_Mo_nearest_372 rfl ?_
        refine ed_iadd hx hb d_Mo_nearest_373 ?_
        refine ed_tz (y := ((E1 + 1 : Nat) : Int)) (by omega) ?_
        refine ed_pc (pc' := 374) rfl ?_
        refine ed_i2l hx hb d_Mo_nearest_374 (by omega) ?_
        refine lv_iload hx hb d_Mo_nearest_375 (lv_at hl 2 rfl) ?_
        refine lv_iconst (v := iI 1) hx hb d_Mo_nearest_377 rfl ?_
        refine ed_isub hx hb d_Mo_nearest_378 ?_
        refine ed_tz (y := ((fbz kf : Nat) : Int)) (by omega) ?_
        refine lv_lshl (v := (jI ((((E1 + 1) * 2 ^ fbz kf : Nat) : Int)))) hx hb d_Mo_nearest_379 (shl_l (a := E1 + 1) (k := fbz kf) (by omega)) ?_
        refine lv_lload hx hb d_Mo_nearest_380 (lv_at hl 6 rfl) ?_
        refine lv_lconst (v := jI 1) hx hb d_Mo_nearest_382 (by decide +kernel) ?_
        refine lv_iload hx hb d_Mo_nearest_383 (lv_at hl 2 rfl) ?_
        refine ed_pc (pc' := 385) rfl ?_
        refine lv_iconst (v := iI 1) hx hb d_Mo_nearest_385 rfl ?_
        refine ed_isub hx hb d_Mo_nearest_386 ?_
        refine ed_tz (y := ((fbz kf : Nat) : Int)) (by omega) ?_
        refine lv_lshl (v := (jI (((1 * 2 ^ fbz kf : Nat) : Int)))) hx hb d_Mo_nearest_387 (shl_l (a := 1) (k := fbz kf) (by omega)) ?_
        refine lv_lconst (v := jI 1) hx hb d_Mo_nearest_388 (by decide +kernel) ?_
        refine ed_lsub hx hb d_Mo_nearest_389 ?_
        refine ed_tj (y := ((2 ^ fbz kf - 1 : Nat) : Int)) (by omega) ?_
        refine lv_land hx hb d_Mo_nearest_390 ?_
        refine ed_tl (y := (jI (((m1 % 2 ^ fbz kf : Nat) : Int)))) (by rw [hz8]; exact and_m (by omega) (by omega)) ?_
        refine lv_lor hx hb d_Mo_nearest_391 ?_
        refine ed_tl (y := (jI ((((E1 + 1) * 2 ^ fbz kf + m1 % 2 ^ fbz kf : Nat) : Int)))) (or_s (Nat.mod_lt _ hpp) (by omega)) ?_
        exact W.lret (v := (jI ((((E1 + 1) * 2 ^ fbz kf + m1 % 2 ^ fbz kf : Nat) : Int)))) hx hb hr (fun t9 ht9 hW9 => ⟨⟨(jI ((((E1 + 1) * 2 ^ fbz kf + m1 % 2 ^ fbz kf : Nat) : Int))), [(mo, .inr (4, [.ref nb, .ref un, .ref ov, .ref xx, .ref dc, .int (iI (zl)), .int (iI (0)), .long (ma), .int (iI (pw)), .int (iI (zk))])), (nb, .inr (3, [.ref nd, .int (iI (((dl X : Nat) : Int))), .int (iI (pt))])), (nd, .inl (cB, 4200, .inl d)), (dc, .inr (2, [.ref dw, .int (iI ((fq : Int))), .int (iI ((tq : Int)))])), (dw, .inl (cI, 465, .inl h))], rfl, ⟨⟨R0, by congr 2; omega, hNR⟩, h, fq, tq, hdz, rfl⟩, by rw [ht9]; exact hP, hD⟩, hS.F ht9⟩) hS.2.2 d_Mo_nearest_392
      · skip
        refine ed_pc (pc' := 364) rfl ?_
        refine lv_lload hx hb d_Mo_nearest_364 (lv_at hl 6 rfl) ?_
        have hlt : m1 < 2 ^ fbz kf := by rcases Nat.lt_or_ge m1 (2 ^ fbz kf) with z | z; exact z; have := Nat.div_pos z hpp; omega
        have hE00 := hE0 hlt
        rw [hE00, Nat.zero_mul] at hEF
        exact W.lret (v := (jI (z8))) hx hb hr (fun t9 ht9 hW9 => ⟨⟨(jI (z8)), [(mo, .inr (4, [.ref nb, .ref un, .ref ov, .ref xx, .ref dc, .int (iI (zl)), .int (iI (0)), .long (ma), .int (iI (pw)), .int (iI (zk))])), (nb, .inr (3, [.ref nd, .int (iI (((dl X : Nat) : Int))), .int (iI (pt))])), (nd, .inl (cB, 4200, .inl d)), (dc, .inr (2, [.ref dw, .int (iI ((fq : Int))), .int (iI ((tq : Int)))])), (dw, .inl (cI, 465, .inl h))], rfl, ⟨⟨R0, by rw [hz8]; congr 1; omega, hNR⟩, h, fq, tq, hdz, rfl⟩, by rw [ht9]; exact hP, hD⟩, hS.F ht9⟩) hS.2.2 d_Mo_nearest_366
    · skip
      refine ed_pc (pc' := 350) rfl ?_
      refine lv_lload_n hx hb d_Mo_nearest_350 rfl (lv_at hl 1 rfl) ?_
      have hq1 : 2 ^ fbz kf ≤ m1 := by rcases Nat.lt_or_ge m1 (2 ^ fbz kf) with z | z; have := hE0 z; omega; exact z
      have hge : ifz kf ≤ R0 := by rw [hR]; exact nt_ge hkf (by omega) hq1
      rw [Nat.min_eq_left hge] at hNR
      exact W.lret (v := (jI (((ifz kf : Nat) : Int)))) hx hb hr (fun t9 ht9 hW9 => ⟨⟨(jI (((ifz kf : Nat) : Int))), [(mo, .inr (4, [.ref nb, .ref un, .ref ov, .ref xx, .ref dc, .int (iI (zl)), .int (iI (0)), .long (ma), .int (iI (pw)), .int (iI (zk))])), (nb, .inr (3, [.ref nd, .int (iI (((dl X : Nat) : Int))), .int (iI (pt))])), (nd, .inl (cB, 4200, .inl d)), (dc, .inr (2, [.ref dw, .int (iI ((fq : Int))), .int (iI ((tq : Int)))])), (dw, .inl (cI, 465, .inl h))], rfl, ⟨⟨_, rfl, hNR⟩, h, fq, tq, hdz, rfl⟩, by rw [ht9]; exact hP, hD⟩, hS.F ht9⟩) hS.2.2 d_Mo_nearest_351
  have L324 : ∀ (q : Nat) (u9 : Nat) (E : Nat) (h : Nat → Int32) (fq : Nat) (tq : Nat) (z7 : Int) (z8 : Int) (ls : Array Slot) (H : Heap) (locs : List Loc), (z7 = lez kf + (E : Int)) → (z8 = ((q + u9 : Nat) : Int)) → (nr (fbz kf + 1) (nP X (pt - ((dl X : Nat) : Int)) kf) (nM (pt - ((dl X : Nat) : Int))) E q) → ((u9 = 1 ∧ upP (nP X (pt - ((dl X : Nat) : Int)) kf) (nM (pt - ((dl X : Nat) : Int))) E q (zl = 1)) ∨ (u9 = 0 ∧ ¬ upP (nP X (pt - ((dl X : Nat) : Int)) kf) (nM (pt - ((dl X : Nat) : Int))) E q (zl = 1))) → (E ≤ 4000) → (dz_ok h fq tq) → lv_has ls 12 [(0, .ref mo), (2, .long (jI (((ifz kf : Nat) : Int)))), (4, .int (iI (((fbz kf + 1 : Nat) : Int)))), (5, .int (iI (lez kf))), (6, .int (iI (lez kf + ((jz kf : Nat) : Int) - 1))), (7, .int (iI (z7))), (8, .long (jI (z8)))] → va_P D ecl [(mo, .inr (4, [.ref nb, .ref un, .ref ov, .ref xx, .ref dc, .int (iI (zl)), .int (iI (0)), .long (ma), .int (iI (pw)), .int (iI (zk))])), (nb, .inr (3, [.ref nd, .int (iI (((dl X : Nat) : Int))), .int (iI (pt))])), (nd, .inl (cB, 4200, .inl d)), (dc, .inr (2, [.ref dw, .int (iI ((fq : Int))), .int (iI ((tq : Int)))])), (dw, .inl (cI, 465, .inl h))] H → va_D A [(mo, .inr (4, [.ref nb, .ref un, .ref ov, .ref xx, .ref dc, .int (iI (zl)), .int (iI (0)), .long (ma), .int (iI (pw)), .int (iI (zk))])), (nb, .inr (3, [.ref nd, .int (iI (((dl X : Nat) : Int))), .int (iI (pt))])), (nd, .inl (cB, 4200, .inl d)), (dc, .inr (2, [.ref dw, .int (iI ((fq : Int))), .int (iI ((tq : Int)))])), (dw, .inl (cI, 465, .inl h))] → va_S A s.heap H locs → W p l e (headSpec (Cond.code m_Mo_nearest b_Mo_nearest 12 (some .long) :: gw) (rm_ 3 63)).room s m ([.ref mo, .int (iI (zz))] : List Value).toArray below meth c H locs 0 0 (MQ below (va_Ql (fun r u => (∃ rn : Nat, r = jI (rn : Int) ∧ NR (fbz kf + 1) (ifz kf) (nP X (pt - ((dl X : Nat) : Int)) kf) (nM (pt - ((dl X : Nat) : Int))) (zl = 1) rn) ∧ ∃ (f' : Nat → Int32) (fr' to' : Nat), dz_ok f' fr' to' ∧ u = [(mo, .inr (4, [.ref nb, .ref un, .ref ov, .ref xx, .ref dc, .int (iI (zl)), .int (iI (0)), .long (ma), .int (iI (pw)), .int (iI (zk))])), (nb, .inr (3, [.ref nd, .int (iI (((dl X : Nat) : Int))), .int (iI (pt))])), (nd, .inl (cB, 4200, .inl d)), (dc, .inr (2, [.ref dw, .int (iI ((fr' : Int))), .int (iI ((to' : Int)))])), (dw, .inl (cI, 465, .inl f'))]) (c_B D ecl A) A) ([.ref mo, .int (iI (zz))] : List Value).toArray s 0 0 A) (F0 m 324 ls []) := by
    intro q u9 E h fq tq z7 z8 ls H locs hz7 hz8 hnr hu hEb hdz hl hP hD hS
    have hqs := hnr.2.1
    have hqE : 0 < E → 2 ^ fbz kf ≤ q := hnr.2.2
    have hu1 : u9 ≤ 1 := by rcases hu with ⟨z, -⟩ | ⟨z, -⟩ <;> omega
    obtain ⟨qq, hqq⟩ : ∃ qq : Nat, qq = (q + u9) / 2 ^ (fbz kf + 1) := ⟨_, rfl⟩
    have hqqb : qq ≤ q + u9 := by rw [hqq]; exact Nat.div_le_self _ _
    refine lv_lload hx hb d_Mo_nearest_324 (lv_at hl 6 rfl) ?_
    refine lv_iload hx hb d_Mo_nearest_326 (lv_at hl 2 rfl) ?_
    refine lv_lshr (v := (jI ((qq : Int)))) hx hb d_Mo_nearest_328 (by rw [hz8, hqq]; exact sar_l (by omega) (by omega)) ?_
    refine lv_lconst (v := jI 0) hx hb d_Mo_nearest_329 (by decide +kernel) ?_
    refine ed_lif_le (tgt := 343) hx hb d_Mo_nearest_330 d_Mo_nearest_331 rfl (by omega) (by omega) (fun h_3 => ?_) (fun h_3 => ?_)
    · skip
      refine ed_pc (pc' := 343) rfl ?_
      have hsm : q + u9 < 2 ^ (fbz kf + 1) := by rcases Nat.lt_or_ge (q + u9) (2 ^ (fbz kf + 1)) with z | z; exact z; have := Nat.div_pos z (p2_pos (fbz kf + 1)); omega
      have hl := lv_sub hl [0, 1, 2, 3, 4, 5, 6] rfl
      exact L343 (q + u9) (E) (E * 2 ^ fbz kf + q + u9) (h) (fq) (tq) _ _ ls H locs (hz7) (hz8) (by omega) (hsm) (fun z => by omega) (by omega) (⟨E, q, u9, hnr, hu, rfl⟩) (hdz) hl hP hD hS
    · skip
      refine ed_pc (pc' := 334) rfl ?_
      have hbg : 2 ^ (fbz kf + 1) ≤ q + u9 := by rcases Nat.lt_or_ge (q + u9) (2 ^ (fbz kf + 1)) with z | z; rw [Nat.div_eq_of_lt z] at hqq; omega; exact z
      refine lv_lload hx hb d_Mo_nearest_334 (lv_at hl 6 rfl) ?_
      refine lv_iconst (v := iI 1) hx hb d_Mo_nearest_336 rfl ?_
      refine ed_pc (pc' := 337) rfl ?_
      refine lv_lshr (v := (jI ((((q + u9) / 2 ^ 1 : Nat) : Int)))) hx hb d_Mo_nearest_337 (by rw [hz8]; exact sar_l (k := 1) (by omega) (by decide)) ?_
      refine lv_lstore hx hb d_Mo_nearest_338 hl (by decide) rfl (fun ls hl => ?_)
      have hl : lv_has ls 12 [(8, .long (jI ((((q + u9) / 2 ^ 1 : Nat) : Int)))), (0, .ref mo), (2, .long (jI (((ifz kf : Nat) : Int)))), (4, .int (iI (((fbz kf + 1 : Nat) : Int)))), (5, .int (iI (lez kf))), (6, .int (iI (lez kf + ((jz kf : Nat) : Int) - 1))), (7, .int (iI (z7)))] := hl
      refine lv_iinc (k := 6) (v := iI (z7 + 1)) hx hb d_Mo_nearest_340 hl rfl (iI_add _ _) (by decide) rfl (fun ls hl => ?_)
      have hl : lv_has ls 12 [(7, .int (iI (z7 + 1))), (8, .long (jI ((((q + u9) / 2 ^ 1 : Nat) : Int)))), (0, .ref mo), (2, .long (jI (((ifz kf : Nat) : Int)))), (4, .int (iI (((fbz kf + 1 : Nat) : Int)))), (5, .int (iI (lez kf))), (6, .int (iI (lez kf + ((jz kf : Nat) : Int) - 1)))] := hl
      have hl := lv_sub hl [2, 3, 4, 5, 6, 0, 1] rfl
      exact L343 ((q + u9) / 2 ^ 1) (E + 1) (E * 2 ^ fbz kf + q + u9) (h) (fq) (tq) _ _ ls H locs (by omega) (rfl) (by rw [Nat.add_mul]; omega) (by omega) (by omega) (by omega) (⟨E, q, u9, hnr, hu, rfl⟩) (hdz) hl hP hD hS
  have L208 : ∀ (n9 : Nat) (T : Nat) (h : Nat → Int32) (fq : Nat) (tq : Nat) (z7 : Int) (ls : Array Slot) (H : Heap) (locs : List Loc), (z7 - lez kf).toNat = n9 → (de_ok h fq tq T) → (T * 2 ^ z7.toNat = T0 * 2 ^ (-z7).toNat) → (T / W42 < 2 ^ (fbz kf + 1)) → (lez kf ≤ z7 ∧ z7 ≤ 1400) → (43 ≤ fq) → (-400 ≤ pt ∧ pt ≤ 400) → lv_has ls 12 [(0, .ref mo), (2, .long (jI (((ifz kf : Nat) : Int)))), (4, .int (iI (((fbz kf + 1 : Nat) : Int)))), (5, .int (iI (lez kf))), (6, .int (iI (lez kf + ((jz kf : Nat) : Int) - 1))), (7, .int (iI (z7)))] → va_P D ecl [(mo, .inr (4, [.ref nb, .ref un, .ref ov, .ref xx, .ref dc, .int (iI (zl)), .int (iI (0)), .long (ma), .int (iI (pw)), .int (iI (zk))])), (nb, .inr (3, [.ref nd, .int (iI (((dl X : Nat) : Int))), .int (iI (pt))])), (nd, .inl (cB, 4200, .inl d)), (dc, .inr (2, [.ref dw, .int (iI ((fq : Int))), .int (iI ((tq : Int)))])), (dw, .inl (cI, 465, .inl h))] H → va_D A [(mo, .inr (4, [.ref nb, .ref un, .ref ov, .ref xx, .ref dc, .int (iI (zl)), .int (iI (0)), .long (ma), .int (iI (pw)), .int (iI (zk))])), (nb, .inr (3, [.ref nd, .int (iI (((dl X : Nat) : Int))), .int (iI (pt))])), (nd, .inl (cB, 4200, .inl d)), (dc, .inr (2, [.ref dw, .int (iI ((fq : Int))), .int (iI ((tq : Int)))])), (dw, .inl (cI, 465, .inl h))] → va_S A s.heap H locs → W p l e (headSpec (Cond.code m_Mo_nearest b_Mo_nearest 12 (some .long) :: gw) (rm_ 3 63)).room s m ([.ref mo, .int (iI (zz))] : List Value).toArray below meth c H locs 0 0 (MQ below (va_Ql (fun r u => (∃ rn : Nat, r = jI (rn : Int) ∧ NR (fbz kf + 1) (ifz kf) (nP X (pt - ((dl X : Nat) : Int)) kf) (nM (pt - ((dl X : Nat) : Int))) (zl = 1) rn) ∧ ∃ (f' : Nat → Int32) (fr' to' : Nat), dz_ok f' fr' to' ∧ u = [(mo, .inr (4, [.ref nb, .ref un, .ref ov, .ref xx, .ref dc, .int (iI (zl)), .int (iI (0)), .long (ma), .int (iI (pw)), .int (iI (zk))])), (nb, .inr (3, [.ref nd, .int (iI (((dl X : Nat) : Int))), .int (iI (pt))])), (nd, .inl (cB, 4200, .inl d)), (dc, .inr (2, [.ref dw, .int (iI ((fr' : Int))), .int (iI ((to' : Int)))])), (dw, .inl (cI, 465, .inl f'))]) (c_B D ecl A) A) ([.ref mo, .int (iI (zz))] : List Value).toArray s 0 0 A) (F0 m 208 ls []) := by
    intro n9
    induction n9 using Nat.strongRecOn with
    | ind n9 ih =>
    intro T h fq tq z7 ls H locs hn9 hde hrel hq hz7 hfr hptb hl hP hD hS
    refine lv_aload_n hx hb d_Mo_nearest_208 rfl (lv_at hl 0 rfl) ?_
    refine c_fi (wc := [(mo, .inr (4, [.ref nb, .ref un, .ref ov, .ref xx, .ref dc, .int (iI (zl)), .int (iI (0)), .long (ma), .int (iI (pw)), .int (iI (zk))])), (dc, .inr (2, [.ref dw, .int (iI ((fq : Int))), .int (iI ((tq : Int)))])), (dw, .inl (cI, 465, .inl h))]) (wr := [(nb, .inr (3, [.ref nd, .int (iI (((dl X : Nat) : Int))), .int (iI (pt))])), (nd, .inl (cB, 4200, .inl d))]) (va_runV (C := "ExactDigitsModel") (As := []) (rest := []) ⟨hx, hb, hml, hown, hts⟩ (c_Mo_bits l D cB cI cJ t5 ad mo nb un ov xx dc dw fq tq h zl 0 pw zk ma T hde hfr H.size) (cwV 0 hts (gV tw_547 tw_549 ts_20 tw_3 tw_550) rfl rfl rfl (by decide +kernel) ⟨Nat.le_of_ble_eq_true rfl, Nat.le_of_ble_eq_true rfl⟩) ⟨c_blind (eX_X t5 ad), va_recv (ci := 4) (q0 := 0) hK hP rfl rfl, fun U hU hW => c_pre (wc := [(mo, .inr (4, [.ref nb, .ref un, .ref ov, .ref xx, .ref dc, .int (iI (zl)), .int (iI (0)), .long (ma), .int (iI (pw)), .int (iI (zk))])), (dc, .inr (2, [.ref dw, .int (iI ((fq : Int))), .int (iI ((tq : Int)))])), (dw, .inl (cI, 465, .inl h))]) (eX_X t5 ad) hE hK hP hD hS hA [0, 3, 4] rfl (by decide) U hU hW⟩ rfl rfl hl.1 rfl (lv_room (Nat.le_of_ble_eq_true rfl)) d_Mo_nearest_209 ⟨Nat.le_of_ble_eq_true rfl, Nat.le_of_ble_eq_true rfl⟩) hP hD hS hA [0, 3, 4] [1, 2] rfl rfl (by decide) (by decide) (fun r u H locs hp hP hD hS => ?_)
    obtain ⟨rfl, rfl⟩ := hp
    have hP : va_P D ecl [(nb, .inr (3, [.ref nd, .int (iI (((dl X : Nat) : Int))), .int (iI (pt))])), (nd, .inl (cB, 4200, .inl d)), (mo, .inr (4, [.ref nb, .ref un, .ref ov, .ref xx, .ref dc, .int (iI (zl)), .int (iI (0)), .long (ma), .int (iI (pw)), .int (iI (zk))])), (dc, .inr (2, [.ref dw, .int (iI ((fq : Int))), .int (iI ((tq : Int)))])), (dw, .inl (cI, 465, .inl h))] H := hP
    have hD : va_D A [(nb, .inr (3, [.ref nd, .int (iI (((dl X : Nat) : Int))), .int (iI (pt))])), (nd, .inl (cB, 4200, .inl d)), (mo, .inr (4, [.ref nb, .ref un, .ref ov, .ref xx, .ref dc, .int (iI (zl)), .int (iI (0)), .long (ma), .int (iI (pw)), .int (iI (zk))])), (dc, .inr (2, [.ref dw, .int (iI ((fq : Int))), .int (iI ((tq : Int)))])), (dw, .inl (cI, 465, .inl h))] := hD
    obtain ⟨bq, hbq⟩ : ∃ bq : Nat, bq = bl (T / W42) := ⟨_, rfl⟩
    have hbqb : bq ≤ 64 := by rw [hbq]; exact Nat.le_trans (bl_bound (show T / W42 < 2 ^ 62 by have := (on_w hde hfr).2; omega)) (by decide)
    refine ed_tz (y := (bq : Int)) (by rw [hbq]) ?_
    refine lv_iload hx hb d_Mo_nearest_212 (lv_at hl 2 rfl) ?_
    refine ed_icmp_ge (tgt := 237) hx hb d_Mo_nearest_214 rfl (by omega) (by omega) (fun h_4 => ?_) (fun h_4 => ?_)
    · skip
      refine ed_pc (pc' := 237) rfl ?_
      obtain ⟨E, hE9⟩ : ∃ E : Nat, E = (z7 - lez kf).toNat := ⟨_, rfl⟩
      have hEz : z7 = lez kf + (E : Int) := by omega
      have hrl2 := nn_rel (X := X) (pt := pt) hkf hrel hT0 (by omega) (by omega) hEz
      have hKp : 0 < (nM (pt - ((dl X : Nat) : Int))) * 2 ^ E := Nat.mul_pos hMp (p2_pos _)
      obtain ⟨q, hqe⟩ : ∃ q : Nat, q = T / W42 := ⟨_, rfl⟩
      have hqb := (on_w hde hfr).2
      rw [← hqe] at hq hqb hbq
      have hqge : 0 < E → 2 ^ fbz kf ≤ q := fun z => by
        rcases Nat.lt_or_ge q (2 ^ fbz kf) with y | y
        · have := bl_iff.mpr y; omega
        · exact y
      have hnr : nr (fbz kf + 1) (nP X (pt - ((dl X : Nat) : Int)) kf) (nM (pt - ((dl X : Nat) : Int))) E q := nn_nr rfl hKp hrl2 hqe hq hqge
      obtain ⟨Pn, hPn⟩ : ∃ Pn : Nat, Pn = 3779 := ⟨_, rfl⟩
      obtain ⟨d9, hd9⟩ : ∃ d9 : Nat, d9 = T / 10 ^ Pn % 10 := ⟨_, rfl⟩
      have hd10 : d9 < 10 := by rw [hd9]; exact dg_lt _ _
      have hup := nn_up (b := (zl = 1)) hPn rfl hKp hrl2 hqe hd9
      obtain ⟨G, hG⟩ : ∃ G : Nat, G = T % 10 ^ Pn := ⟨_, rfl⟩
      rw [← hG] at hup
      have hdzf := de_dz hde
      refine lv_aload_n hx hb d_Mo_nearest_237 rfl (lv_at hl 0 rfl) ?_
      refine c_fl (wc := [(mo, .inr (4, [.ref nb, .ref un, .ref ov, .ref xx, .ref dc, .int (iI (zl)), .int (iI (0)), .long (ma), .int (iI (pw)), .int (iI (zk))])), (dc, .inr (2, [.ref dw, .int (iI ((fq : Int))), .int (iI ((tq : Int)))])), (dw, .inl (cI, 465, .inl h))]) (wr := [(nb, .inr (3, [.ref nd, .int (iI (((dl X : Nat) : Int))), .int (iI (pt))])), (nd, .inl (cB, 4200, .inl d))]) (va_runV (C := "ExactDigitsModel") (As := []) (rest := []) ⟨hx, hb, hml, hown, hts⟩ (c_Mo_ones l D cB cI cJ t5 ad mo nb un ov xx dc dw fq tq h zl 0 pw zk ma T hde hfr H.size) (cwV 0 hts (gV tw_551 tw_553 ts_21 tw_3 tw_554) rfl rfl rfl (by decide +kernel) ⟨Nat.le_of_ble_eq_true rfl, Nat.le_of_ble_eq_true rfl⟩) ⟨c_blind (eX_X t5 ad), va_recv (ci := 4) (q0 := 2) hK hP rfl rfl, fun U hU hW => c_pre (wc := [(mo, .inr (4, [.ref nb, .ref un, .ref ov, .ref xx, .ref dc, .int (iI (zl)), .int (iI (0)), .long (ma), .int (iI (pw)), .int (iI (zk))])), (dc, .inr (2, [.ref dw, .int (iI ((fq : Int))), .int (iI ((tq : Int)))])), (dw, .inl (cI, 465, .inl h))]) (eX_X t5 ad) hE hK hP hD hS hA [2, 3, 4] rfl (by decide) U hU hW⟩ rfl rfl hl.1 rfl (lv_room (Nat.le_of_ble_eq_true rfl)) d_Mo_nearest_238 ⟨Nat.le_of_ble_eq_true rfl, Nat.le_of_ble_eq_true rfl⟩) hP hD hS hA [2, 3, 4] [0, 1] rfl rfl (by decide) (by decide) (fun r u H locs hp hP hD hS => ?_)
      obtain ⟨rfl, rfl⟩ := hp
      have hP : va_P D ecl [(nb, .inr (3, [.ref nd, .int (iI (((dl X : Nat) : Int))), .int (iI (pt))])), (nd, .inl (cB, 4200, .inl d)), (mo, .inr (4, [.ref nb, .ref un, .ref ov, .ref xx, .ref dc, .int (iI (zl)), .int (iI (0)), .long (ma), .int (iI (pw)), .int (iI (zk))])), (dc, .inr (2, [.ref dw, .int (iI ((fq : Int))), .int (iI ((tq : Int)))])), (dw, .inl (cI, 465, .inl h))] H := hP
      have hD : va_D A [(nb, .inr (3, [.ref nd, .int (iI (((dl X : Nat) : Int))), .int (iI (pt))])), (nd, .inl (cB, 4200, .inl d)), (mo, .inr (4, [.ref nb, .ref un, .ref ov, .ref xx, .ref dc, .int (iI (zl)), .int (iI (0)), .long (ma), .int (iI (pw)), .int (iI (zk))])), (dc, .inr (2, [.ref dw, .int (iI ((fq : Int))), .int (iI ((tq : Int)))])), (dw, .inl (cI, 465, .inl h))] := hD
      refine ed_tj (y := (q : Int)) (by rw [hqe]) ?_
      refine lv_lstore hx hb d_Mo_nearest_241 hl (by decide) rfl (fun ls hl => ?_)
      have hl : lv_has ls 12 [(8, .long (jI ((q : Int)))), (0, .ref mo), (2, .long (jI (((ifz kf : Nat) : Int)))), (4, .int (iI (((fbz kf + 1 : Nat) : Int)))), (5, .int (iI (lez kf))), (6, .int (iI (lez kf + ((jz kf : Nat) : Int) - 1))), (7, .int (iI (z7)))] := hl
      refine ed_pc (pc' := 243) rfl ?_
      refine lv_aload_n hx hb d_Mo_nearest_243 rfl (lv_at hl 1 rfl) ?_
      refine va_get (D := D) (ci := 4) (v := .ref dc) (C := R_Mo) (T := T_Mo) (N := 10) hx hb hts (fun w h => List.mem_cons_of_mem _ (in_Mo w h)) hown hK hP 2 rfl rfl 4 (by decide) (hts _ (List.mem_cons_of_mem _ tw_394)) (fun _ h9 => h9) rfl d_Mo_nearest_244 ?_
      refine lv_iconst (v := iI (-1)) hx hb d_Mo_nearest_247 rfl ?_
      refine c_fi (wc := [(dc, .inr (2, [.ref dw, .int (iI ((fq : Int))), .int (iI ((tq : Int)))])), (dw, .inl (cI, 465, .inl h))]) (wr := [(nb, .inr (3, [.ref nd, .int (iI (((dl X : Nat) : Int))), .int (iI (pt))])), (nd, .inl (cB, 4200, .inl d)), (mo, .inr (4, [.ref nb, .ref un, .ref ov, .ref xx, .ref dc, .int (iI (zl)), .int (iI (0)), .long (ma), .int (iI (pw)), .int (iI (zk))]))]) (va_runV (C := "ExactDigitsModel$Decimal") (As := [.int (iI (-1))]) (rest := []) ⟨hx, hb, hml, hown, hts⟩ (c_De_digit l D cB cI cJ t5 ad dc dw fq tq h T Pn (-1) hde (by omega) (by omega) H.size) (cwV 1 hts (gV tw_575 tw_576 tw_577 tw_5 tw_578) rfl rfl rfl (by decide +kernel) ⟨Nat.le_of_ble_eq_true rfl, Nat.le_of_ble_eq_true rfl⟩) ⟨c_blind (eX_X t5 ad), va_recv (ci := 2) (q0 := 3) hK hP rfl rfl, fun U hU hW => c_pre (wc := [(dc, .inr (2, [.ref dw, .int (iI ((fq : Int))), .int (iI ((tq : Int)))])), (dw, .inl (cI, 465, .inl h))]) (eX_X t5 ad) hE hK hP hD hS hA [3, 4] rfl (by decide) U hU hW⟩ rfl rfl hl.1 rfl (lv_room (Nat.le_of_ble_eq_true rfl)) d_Mo_nearest_248 ⟨Nat.le_of_ble_eq_true rfl, Nat.le_of_ble_eq_true rfl⟩) hP hD hS hA [3, 4] [0, 1, 2] rfl rfl (by decide) (by decide) (fun r u H locs hp hP hD hS => ?_)
      obtain ⟨rfl, rfl⟩ := hp
      have hP : va_P D ecl [(nb, .inr (3, [.ref nd, .int (iI (((dl X : Nat) : Int))), .int (iI (pt))])), (nd, .inl (cB, 4200, .inl d)), (mo, .inr (4, [.ref nb, .ref un, .ref ov, .ref xx, .ref dc, .int (iI (zl)), .int (iI (0)), .long (ma), .int (iI (pw)), .int (iI (zk))])), (dc, .inr (2, [.ref dw, .int (iI ((fq : Int))), .int (iI ((tq : Int)))])), (dw, .inl (cI, 465, .inl h))] H := hP
      have hD : va_D A [(nb, .inr (3, [.ref nd, .int (iI (((dl X : Nat) : Int))), .int (iI (pt))])), (nd, .inl (cB, 4200, .inl d)), (mo, .inr (4, [.ref nb, .ref un, .ref ov, .ref xx, .ref dc, .int (iI (zl)), .int (iI (0)), .long (ma), .int (iI (pw)), .int (iI (zk))])), (dc, .inr (2, [.ref dw, .int (iI ((fq : Int))), .int (iI ((tq : Int)))])), (dw, .inl (cI, 465, .inl h))] := hD
      refine ed_tz (y := (d9 : Int)) (by rw [hd9]) ?_
      refine lv_iconst (v := iI 5) hx hb d_Mo_nearest_251 rfl ?_
      refine ed_icmp_lt (tgt := 259) hx hb d_Mo_nearest_252 rfl (by omega) (by omega) (fun h_5 => ?_) (fun h_5 => ?_)
      · skip
        refine ed_pc (pc' := 259) rfl ?_
        refine lv_iconst (v := iI 0) hx hb d_Mo_nearest_259 rfl ?_
        refine lv_istore hx hb d_Mo_nearest_260 hl (by decide) rfl (fun ls hl => ?_)
        have hl : lv_has ls 12 [(10, .int (iI (0))), (8, .long (jI ((q : Int)))), (0, .ref mo), (2, .long (jI (((ifz kf : Nat) : Int)))), (4, .int (iI (((fbz kf + 1 : Nat) : Int)))), (5, .int (iI (lez kf))), (6, .int (iI (lez kf + ((jz kf : Nat) : Int) - 1))), (7, .int (iI (z7)))] := hl
        refine ed_pc (pc' := 262) rfl ?_
        refine lv_aload_n hx hb d_Mo_nearest_262 rfl (lv_at hl 2 rfl) ?_
        refine va_get (D := D) (ci := 4) (v := .ref dc) (C := R_Mo) (T := T_Mo) (N := 10) hx hb hts (fun w h => List.mem_cons_of_mem _ (in_Mo w h)) hown hK hP 2 rfl rfl 4 (by decide) (hts _ (List.mem_cons_of_mem _ tw_394)) (fun _ h9 => h9) rfl d_Mo_nearest_263 ?_
        refine lv_iconst (v := iI (-1)) hx hb d_Mo_nearest_266 rfl ?_
        refine c_fi (wc := [(dc, .inr (2, [.ref dw, .int (iI ((fq : Int))), .int (iI ((tq : Int)))])), (dw, .inl (cI, 465, .inl h))]) (wr := [(nb, .inr (3, [.ref nd, .int (iI (((dl X : Nat) : Int))), .int (iI (pt))])), (nd, .inl (cB, 4200, .inl d)), (mo, .inr (4, [.ref nb, .ref un, .ref ov, .ref xx, .ref dc, .int (iI (zl)), .int (iI (0)), .long (ma), .int (iI (pw)), .int (iI (zk))]))]) (va_runV (C := "ExactDigitsModel$Decimal") (As := [.int (iI (-1))]) (rest := []) ⟨hx, hb, hml, hown, hts⟩ (c_De_digit l D cB cI cJ t5 ad dc dw fq tq h T Pn (-1) hde (by omega) (by omega) H.size) (cwV 1 hts (gV tw_575 tw_576 tw_577 tw_5 tw_578) rfl rfl rfl (by decide +kernel) ⟨Nat.le_of_ble_eq_true rfl, Nat.le_of_ble_eq_true rfl⟩) ⟨c_blind (eX_X t5 ad), va_recv (ci := 2) (q0 := 3) hK hP rfl rfl, fun U hU hW => c_pre (wc := [(dc, .inr (2, [.ref dw, .int (iI ((fq : Int))), .int (iI ((tq : Int)))])), (dw, .inl (cI, 465, .inl h))]) (eX_X t5 ad) hE hK hP hD hS hA [3, 4] rfl (by decide) U hU hW⟩ rfl rfl hl.1 rfl (lv_room (Nat.le_of_ble_eq_true rfl)) d_Mo_nearest_267 ⟨Nat.le_of_ble_eq_true rfl, Nat.le_of_ble_eq_true rfl⟩) hP hD hS hA [3, 4] [0, 1, 2] rfl rfl (by decide) (by decide) (fun r u H locs hp hP hD hS => ?_)
        obtain ⟨rfl, rfl⟩ := hp
        have hP : va_P D ecl [(nb, .inr (3, [.ref nd, .int (iI (((dl X : Nat) : Int))), .int (iI (pt))])), (nd, .inl (cB, 4200, .inl d)), (mo, .inr (4, [.ref nb, .ref un, .ref ov, .ref xx, .ref dc, .int (iI (zl)), .int (iI (0)), .long (ma), .int (iI (pw)), .int (iI (zk))])), (dc, .inr (2, [.ref dw, .int (iI ((fq : Int))), .int (iI ((tq : Int)))])), (dw, .inl (cI, 465, .inl h))] H := hP
        have hD : va_D A [(nb, .inr (3, [.ref nd, .int (iI (((dl X : Nat) : Int))), .int (iI (pt))])), (nd, .inl (cB, 4200, .inl d)), (mo, .inr (4, [.ref nb, .ref un, .ref ov, .ref xx, .ref dc, .int (iI (zl)), .int (iI (0)), .long (ma), .int (iI (pw)), .int (iI (zk))])), (dc, .inr (2, [.ref dw, .int (iI ((fq : Int))), .int (iI ((tq : Int)))])), (dw, .inl (cI, 465, .inl h))] := hD
        refine ed_tz (y := (d9 : Int)) (by rw [hd9]) ?_
        refine lv_iconst (v := iI 5) hx hb d_Mo_nearest_270 rfl ?_
        refine ed_icmp_ne (tgt := 296) hx hb d_Mo_nearest_271 rfl (by omega) (by omega) (fun h_6 => ?_) (fun h_6 => ?_)
        · skip
          refine ed_pc (pc' := 296) rfl ?_
          refine lv_iconst (v := iI 0) hx hb d_Mo_nearest_296 rfl ?_
          refine lv_istore hx hb d_Mo_nearest_297 hl (by decide) rfl (fun ls hl => ?_)
          have hl : lv_has ls 12 [(11, .int (iI (0))), (10, .int (iI (0))), (8, .long (jI ((q : Int)))), (0, .ref mo), (2, .long (jI (((ifz kf : Nat) : Int)))), (4, .int (iI (((fbz kf + 1 : Nat) : Int)))), (5, .int (iI (lez kf))), (6, .int (iI (lez kf + ((jz kf : Nat) : Int) - 1))), (7, .int (iI (z7)))] := hl
          refine ed_pc (pc' := 299) rfl ?_
          refine lv_iload hx hb d_Mo_nearest_299 (lv_at hl 1 rfl) ?_
          refine ed_if_eq (tgt := 324) hx hb d_Mo_nearest_301 rfl (by omega) (fun h_7 => ?_) (fun h_7 => ?_)
          · skip
            refine ed_pc (pc' := 324) rfl ?_
            have hP := hP.sub (ws' := [(mo, .inr (4, [.ref nb, .ref un, .ref ov, .ref xx, .ref dc, .int (iI (zl)), .int (iI (0)), .long (ma), .int (iI (pw)), .int (iI (zk))])), (nb, .inr (3, [.ref nd, .int (iI (((dl X : Nat) : Int))), .int (iI (pt))])), (nd, .inl (cB, 4200, .inl d)), (dc, .inr (2, [.ref dw, .int (iI ((fq : Int))), .int (iI ((tq : Int)))])), (dw, .inl (cI, 465, .inl h))]) [2, 0, 1, 3, 4] rfl
            have hD := hD.sub (ws' := [(mo, .inr (4, [.ref nb, .ref un, .ref ov, .ref xx, .ref dc, .int (iI (zl)), .int (iI (0)), .long (ma), .int (iI (pw)), .int (iI (zk))])), (nb, .inr (3, [.ref nd, .int (iI (((dl X : Nat) : Int))), .int (iI (pt))])), (nd, .inl (cB, 4200, .inl d)), (dc, .inr (2, [.ref dw, .int (iI ((fq : Int))), .int (iI ((tq : Int)))])), (dw, .inl (cI, 465, .inl h))]) [2, 0, 1, 3, 4] (by decide) rfl
            have hl := lv_sub hl [3, 4, 5, 6, 7, 8, 2] rfl
            exact L324 (q) (0) (E) (h) (fq) (tq) _ _ ls H locs (hEz) (by omega) (hnr) (Or.inr ⟨rfl, fun z => by have := hup.mp z; omega⟩) (by omega) (hdzf) hl hP hD hS
          · exact absurd h_7 (by omega)
        · exact absurd h_6 (by omega)
      · skip
        refine ed_pc (pc' := 255) rfl ?_
        refine lv_iconst (v := iI 1) hx hb d_Mo_nearest_255 rfl ?_
        refine lv_goto (tgt := 260) hx hb d_Mo_nearest_256 rfl ?_
        refine ed_pc (pc' := 260) rfl ?_
        refine lv_istore hx hb d_Mo_nearest_260 hl (by decide) rfl (fun ls hl => ?_)
        have hl : lv_has ls 12 [(10, .int (iI (1))), (8, .long (jI ((q : Int)))), (0, .ref mo), (2, .long (jI (((ifz kf : Nat) : Int)))), (4, .int (iI (((fbz kf + 1 : Nat) : Int)))), (5, .int (iI (lez kf))), (6, .int (iI (lez kf + ((jz kf : Nat) : Int) - 1))), (7, .int (iI (z7)))] := hl
        refine lv_aload_n hx hb d_Mo_nearest_262 rfl (lv_at hl 2 rfl) ?_
        refine va_get (D := D) (ci := 4) (v := .ref dc) (C := R_Mo) (T := T_Mo) (N := 10) hx hb hts (fun w h => List.mem_cons_of_mem _ (in_Mo w h)) hown hK hP 2 rfl rfl 4 (by decide) (hts _ (List.mem_cons_of_mem _ tw_394)) (fun _ h9 => h9) rfl d_Mo_nearest_263 ?_
        refine lv_iconst (v := iI (-1)) hx hb d_Mo_nearest_266 rfl ?_
        refine c_fi (wc := [(dc, .inr (2, [.ref dw, .int (iI ((fq : Int))), .int (iI ((tq : Int)))])), (dw, .inl (cI, 465, .inl h))]) (wr := [(nb, .inr (3, [.ref nd, .int (iI (((dl X : Nat) : Int))), .int (iI (pt))])), (nd, .inl (cB, 4200, .inl d)), (mo, .inr (4, [.ref nb, .ref un, .ref ov, .ref xx, .ref dc, .int (iI (zl)), .int (iI (0)), .long (ma), .int (iI (pw)), .int (iI (zk))]))]) (va_runV (C := "ExactDigitsModel$Decimal") (As := [.int (iI (-1))]) (rest := []) ⟨hx, hb, hml, hown, hts⟩ (c_De_digit l D cB cI cJ t5 ad dc dw fq tq h T Pn (-1) hde (by omega) (by omega) H.size) (cwV 1 hts (gV tw_575 tw_576 tw_577 tw_5 tw_578) rfl rfl rfl (by decide +kernel) ⟨Nat.le_of_ble_eq_true rfl, Nat.le_of_ble_eq_true rfl⟩) ⟨c_blind (eX_X t5 ad), va_recv (ci := 2) (q0 := 3) hK hP rfl rfl, fun U hU hW => c_pre (wc := [(dc, .inr (2, [.ref dw, .int (iI ((fq : Int))), .int (iI ((tq : Int)))])), (dw, .inl (cI, 465, .inl h))]) (eX_X t5 ad) hE hK hP hD hS hA [3, 4] rfl (by decide) U hU hW⟩ rfl rfl hl.1 rfl (lv_room (Nat.le_of_ble_eq_true rfl)) d_Mo_nearest_267 ⟨Nat.le_of_ble_eq_true rfl, Nat.le_of_ble_eq_true rfl⟩) hP hD hS hA [3, 4] [0, 1, 2] rfl rfl (by decide) (by decide) (fun r u H locs hp hP hD hS => ?_)
        obtain ⟨rfl, rfl⟩ := hp
        have hP : va_P D ecl [(nb, .inr (3, [.ref nd, .int (iI (((dl X : Nat) : Int))), .int (iI (pt))])), (nd, .inl (cB, 4200, .inl d)), (mo, .inr (4, [.ref nb, .ref un, .ref ov, .ref xx, .ref dc, .int (iI (zl)), .int (iI (0)), .long (ma), .int (iI (pw)), .int (iI (zk))])), (dc, .inr (2, [.ref dw, .int (iI ((fq : Int))), .int (iI ((tq : Int)))])), (dw, .inl (cI, 465, .inl h))] H := hP
        have hD : va_D A [(nb, .inr (3, [.ref nd, .int (iI (((dl X : Nat) : Int))), .int (iI (pt))])), (nd, .inl (cB, 4200, .inl d)), (mo, .inr (4, [.ref nb, .ref un, .ref ov, .ref xx, .ref dc, .int (iI (zl)), .int (iI (0)), .long (ma), .int (iI (pw)), .int (iI (zk))])), (dc, .inr (2, [.ref dw, .int (iI ((fq : Int))), .int (iI ((tq : Int)))])), (dw, .inl (cI, 465, .inl h))] := hD
        refine ed_tz (y := (d9 : Int)) (by rw [hd9]) ?_
        refine lv_iconst (v := iI 5) hx hb d_Mo_nearest_270 rfl ?_
        refine ed_icmp_ne (tgt := 296) hx hb d_Mo_nearest_271 rfl (by omega) (by omega) (fun h_8 => ?_) (fun h_8 => ?_)
        · skip
          refine ed_pc (pc' := 296) rfl ?_
          refine lv_iconst (v := iI 0) hx hb d_Mo_nearest_296 rfl ?_
          refine ed_pc (pc' := 297) rfl ?_
          refine lv_istore hx hb d_Mo_nearest_297 hl (by decide) rfl (fun ls hl => ?_)
          have hl : lv_has ls 12 [(11, .int (iI (0))), (10, .int (iI (1))), (8, .long (jI ((q : Int)))), (0, .ref mo), (2, .long (jI (((ifz kf : Nat) : Int)))), (4, .int (iI (((fbz kf + 1 : Nat) : Int)))), (5, .int (iI (lez kf))), (6, .int (iI (lez kf + ((jz kf : Nat) : Int) - 1))), (7, .int (iI (z7)))] := hl
          refine lv_iload hx hb d_Mo_nearest_299 (lv_at hl 1 rfl) ?_
          refine ed_if_eq (tgt := 324) hx hb d_Mo_nearest_301 rfl (by omega) (fun h_9 => ?_) (fun h_9 => ?_)
          · exact absurd h_9 (by omega)
          · skip
            refine ed_pc (pc' := 304) rfl ?_
            refine lv_iload hx hb d_Mo_nearest_304 (lv_at hl 0 rfl) ?_
            refine ed_if_eq (tgt := 318) hx hb d_Mo_nearest_306 rfl (by omega) (fun h_10 => ?_) (fun h_10 => ?_)
            · skip
              refine ed_pc (pc' := 318) rfl ?_
              refine lv_lload hx hb d_Mo_nearest_318 (lv_at hl 2 rfl) ?_
              refine lv_lconst (v := jI 1) hx hb d_Mo_nearest_320 (by decide +kernel) ?_
              refine ed_ladd hx hb d_Mo_nearest_321 ?_
              refine ed_pc (pc' := 322) rfl ?_
              refine lv_lstore hx hb d_Mo_nearest_322 hl (by decide) rfl (fun ls hl => ?_)
              have hl : lv_has ls 12 [(8, .long (jI (((q : Int)) + (1)))), (11, .int (iI (0))), (10, .int (iI (1))), (0, .ref mo), (2, .long (jI (((ifz kf : Nat) : Int)))), (4, .int (iI (((fbz kf + 1 : Nat) : Int)))), (5, .int (iI (lez kf))), (6, .int (iI (lez kf + ((jz kf : Nat) : Int) - 1))), (7, .int (iI (z7)))] := hl
              have hP := hP.sub (ws' := [(mo, .inr (4, [.ref nb, .ref un, .ref ov, .ref xx, .ref dc, .int (iI (zl)), .int (iI (0)), .long (ma), .int (iI (pw)), .int (iI (zk))])), (nb, .inr (3, [.ref nd, .int (iI (((dl X : Nat) : Int))), .int (iI (pt))])), (nd, .inl (cB, 4200, .inl d)), (dc, .inr (2, [.ref dw, .int (iI ((fq : Int))), .int (iI ((tq : Int)))])), (dw, .inl (cI, 465, .inl h))]) [2, 0, 1, 3, 4] rfl
              have hD := hD.sub (ws' := [(mo, .inr (4, [.ref nb, .ref un, .ref ov, .ref xx, .ref dc, .int (iI (zl)), .int (iI (0)), .long (ma), .int (iI (pw)), .int (iI (zk))])), (nb, .inr (3, [.ref nd, .int (iI (((dl X : Nat) : Int))), .int (iI (pt))])), (nd, .inl (cB, 4200, .inl d)), (dc, .inr (2, [.ref dw, .int (iI ((fq : Int))), .int (iI ((tq : Int)))])), (dw, .inl (cI, 465, .inl h))]) [2, 0, 1, 3, 4] (by decide) rfl
              have hl := lv_sub hl [3, 4, 5, 6, 7, 8, 0] rfl
              exact L324 (q) (1) (E) (h) (fq) (tq) _ _ ls H locs (hEz) (by omega) (hnr) (Or.inl ⟨rfl, hup.mpr (by omega)⟩) (by omega) (hdzf) hl hP hD hS
            · exact absurd h_10 (by omega)
        · skip
          refine ed_pc (pc' := 274) rfl ?_
          refine lv_aload_n hx hb d_Mo_nearest_274 rfl (lv_at hl 2 rfl) ?_
          refine ed_pc (pc' := 275) rfl ?_
          refine va_get (D := D) (ci := 4) (v := .ref dc) (C := R_Mo) (T := T_Mo) (N := 10) hx hb hts (fun w h => List.mem_cons_of_mem _ (in_Mo w h)) hown hK hP 2 rfl rfl 4 (by decide) (hts _ (List.mem_cons_of_mem _ tw_394)) (fun _ h9 => h9) rfl d_Mo_nearest_275 ?_
          refine lv_iconst (v := iI (-1)) hx hb d_Mo_nearest_278 rfl ?_
          refine c_fi (wc := [(dc, .inr (2, [.ref dw, .int (iI ((fq : Int))), .int (iI ((tq : Int)))])), (dw, .inl (cI, 465, .inl h))]) (wr := [(nb, .inr (3, [.ref nd, .int (iI (((dl X : Nat) : Int))), .int (iI (pt))])), (nd, .inl (cB, 4200, .inl d)), (mo, .inr (4, [.ref nb, .ref un, .ref ov, .ref xx, .ref dc, .int (iI (zl)), .int (iI (0)), .long (ma), .int (iI (pw)), .int (iI (zk))]))]) (va_runV (C := "ExactDigitsModel$Decimal") (As := [.int (iI (-1))]) (rest := []) ⟨hx, hb, hml, hown, hts⟩ (c_De_isBelow l D cB cI cJ t5 ad dc dw fq tq h T Pn (-1) hde (by omega) (by omega) H.size) (cwV 1 hts (gV tw_579 tw_580 tw_581 tw_5 tw_582) rfl rfl rfl (by decide +kernel) ⟨Nat.le_of_ble_eq_true rfl, Nat.le_of_ble_eq_true rfl⟩) ⟨c_blind (eX_X t5 ad), va_recv (ci := 2) (q0 := 3) hK hP rfl rfl, fun U hU hW => c_pre (wc := [(dc, .inr (2, [.ref dw, .int (iI ((fq : Int))), .int (iI ((tq : Int)))])), (dw, .inl (cI, 465, .inl h))]) (eX_X t5 ad) hE hK hP hD hS hA [3, 4] rfl (by decide) U hU hW⟩ rfl rfl hl.1 rfl (lv_room (Nat.le_of_ble_eq_true rfl)) d_Mo_nearest_279 ⟨Nat.le_of_ble_eq_true rfl, Nat.le_of_ble_eq_true rfl⟩) hP hD hS hA [3, 4] [0, 1, 2] rfl rfl (by decide) (by decide) (fun r u H locs hp hP hD hS => ?_)
          obtain ⟨⟨zb, rfl, hzb⟩, rfl⟩ := hp
          have hP : va_P D ecl [(nb, .inr (3, [.ref nd, .int (iI (((dl X : Nat) : Int))), .int (iI (pt))])), (nd, .inl (cB, 4200, .inl d)), (mo, .inr (4, [.ref nb, .ref un, .ref ov, .ref xx, .ref dc, .int (iI (zl)), .int (iI (0)), .long (ma), .int (iI (pw)), .int (iI (zk))])), (dc, .inr (2, [.ref dw, .int (iI ((fq : Int))), .int (iI ((tq : Int)))])), (dw, .inl (cI, 465, .inl h))] H := hP
          have hD : va_D A [(nb, .inr (3, [.ref nd, .int (iI (((dl X : Nat) : Int))), .int (iI (pt))])), (nd, .inl (cB, 4200, .inl d)), (mo, .inr (4, [.ref nb, .ref un, .ref ov, .ref xx, .ref dc, .int (iI (zl)), .int (iI (0)), .long (ma), .int (iI (pw)), .int (iI (zk))])), (dc, .inr (2, [.ref dw, .int (iI ((fq : Int))), .int (iI ((tq : Int)))])), (dw, .inl (cI, 465, .inl h))] := hD
          rw [← hG] at hzb
          refine ed_if_ne (tgt := 296) hx hb d_Mo_nearest_282 rfl (by omega) (fun h_11 => ?_) (fun h_11 => ?_)
          · skip
            refine ed_pc (pc' := 296) rfl ?_
            refine lv_iconst (v := iI 0) hx hb d_Mo_nearest_296 rfl ?_
            refine lv_istore hx hb d_Mo_nearest_297 hl (by decide) rfl (fun ls hl => ?_)
            have hl : lv_has ls 12 [(11, .int (iI (0))), (10, .int (iI (1))), (8, .long (jI ((q : Int)))), (0, .ref mo), (2, .long (jI (((ifz kf : Nat) : Int)))), (4, .int (iI (((fbz kf + 1 : Nat) : Int)))), (5, .int (iI (lez kf))), (6, .int (iI (lez kf + ((jz kf : Nat) : Int) - 1))), (7, .int (iI (z7)))] := hl
            refine lv_iload hx hb d_Mo_nearest_299 (lv_at hl 1 rfl) ?_
            refine ed_if_eq (tgt := 324) hx hb d_Mo_nearest_301 rfl (by omega) (fun h_12 => ?_) (fun h_12 => ?_)
            · exact absurd h_12 (by omega)
            · skip
              refine ed_pc (pc' := 304) rfl ?_
              refine ed_pc (pc' := 304) rfl ?_
              refine lv_iload hx hb d_Mo_nearest_304 (lv_at hl 0 rfl) ?_
              refine ed_if_eq (tgt := 318) hx hb d_Mo_nearest_306 rfl (by omega) (fun h_13 => ?_) (fun h_13 => ?_)
              · skip
                refine ed_pc (pc' := 318) rfl ?_
                refine lv_lload hx hb d_Mo_nearest_318 (lv_at hl 2 rfl) ?_
                refine lv_lconst (v := jI 1) hx hb d_Mo_nearest_320 (by decide +kernel) ?_
                refine ed_ladd hx hb d_Mo_nearest_321 ?_
                refine lv_lstore hx hb d_Mo_nearest_322 hl (by decide) rfl (fun ls hl => ?_)
                have hl : lv_has ls 12 [(8, .long (jI (((q : Int)) + (1)))), (11, .int (iI (0))), (10, .int (iI (1))), (0, .ref mo), (2, .long (jI (((ifz kf : Nat) : Int)))), (4, .int (iI (((fbz kf + 1 : Nat) : Int)))), (5, .int (iI (lez kf))), (6, .int (iI (lez kf + ((jz kf : Nat) : Int) - 1))), (7, .int (iI (z7)))] := hl
                have hP := hP.sub (ws' := [(mo, .inr (4, [.ref nb, .ref un, .ref ov, .ref xx, .ref dc, .int (iI (zl)), .int (iI (0)), .long (ma), .int (iI (pw)), .int (iI (zk))])), (nb, .inr (3, [.ref nd, .int (iI (((dl X : Nat) : Int))), .int (iI (pt))])), (nd, .inl (cB, 4200, .inl d)), (dc, .inr (2, [.ref dw, .int (iI ((fq : Int))), .int (iI ((tq : Int)))])), (dw, .inl (cI, 465, .inl h))]) [2, 0, 1, 3, 4] rfl
                have hD := hD.sub (ws' := [(mo, .inr (4, [.ref nb, .ref un, .ref ov, .ref xx, .ref dc, .int (iI (zl)), .int (iI (0)), .long (ma), .int (iI (pw)), .int (iI (zk))])), (nb, .inr (3, [.ref nd, .int (iI (((dl X : Nat) : Int))), .int (iI (pt))])), (nd, .inl (cB, 4200, .inl d)), (dc, .inr (2, [.ref dw, .int (iI ((fq : Int))), .int (iI ((tq : Int)))])), (dw, .inl (cI, 465, .inl h))]) [2, 0, 1, 3, 4] (by decide) rfl
                have hl := lv_sub hl [3, 4, 5, 6, 7, 8, 0] rfl
                exact L324 (q) (1) (E) (h) (fq) (tq) _ _ ls H locs (hEz) (by omega) (hnr) (Or.inl ⟨rfl, hup.mpr (by omega)⟩) (by omega) (hdzf) hl hP hD hS
              · exact absurd h_13 (by omega)
          · skip
            refine ed_pc (pc' := 285) rfl ?_
            refine lv_aload_n hx hb d_Mo_nearest_285 rfl (lv_at hl 2 rfl) ?_
            refine va_get (D := D) (ci := 4) (v := .int (iI (zl))) (C := R_Mo) (T := T_Mo) (N := 10) hx hb hts (fun w h => List.mem_cons_of_mem _ (in_Mo w h)) hown hK hP 2 rfl rfl 5 (by decide) (hts _ (List.mem_cons_of_mem _ tw_395)) (fun _ h9 => h9) rfl d_Mo_nearest_286 ?_
            refine ed_if_ne (tgt := 296) hx hb d_Mo_nearest_289 rfl (by omega) (fun h_14 => ?_) (fun h_14 => ?_)
            · skip
              refine ed_pc (pc' := 296) rfl ?_
              refine lv_iconst (v := iI 0) hx hb d_Mo_nearest_296 rfl ?_
              refine ed_pc (pc' := 297) rfl ?_
              refine lv_istore hx hb d_Mo_nearest_297 hl (by decide) rfl (fun ls hl => ?_)
              have hl : lv_has ls 12 [(11, .int (iI (0))), (10, .int (iI (1))), (8, .long (jI ((q : Int)))), (0, .ref mo), (2, .long (jI (((ifz kf : Nat) : Int)))), (4, .int (iI (((fbz kf + 1 : Nat) : Int)))), (5, .int (iI (lez kf))), (6, .int (iI (lez kf + ((jz kf : Nat) : Int) - 1))), (7, .int (iI (z7)))] := hl
              refine lv_iload hx hb d_Mo_nearest_299 (lv_at hl 1 rfl) ?_
              refine ed_if_eq (tgt := 324) hx hb d_Mo_nearest_301 rfl (by omega) (fun h_15 => ?_) (fun h_15 => ?_)
              · exact absurd h_15 (by omega)
              · skip
                refine ed_pc (pc' := 304) rfl ?_
                refine lv_iload hx hb d_Mo_nearest_304 (lv_at hl 0 rfl) ?_
                refine ed_if_eq (tgt := 318) hx hb d_Mo_nearest_306 rfl (by omega) (fun h_16 => ?_) (fun h_16 => ?_)
                · skip
                  refine ed_pc (pc' := 318) rfl ?_
                  refine lv_lload hx hb d_Mo_nearest_318 (lv_at hl 2 rfl) ?_
                  refine lv_lconst (v := jI 1) hx hb d_Mo_nearest_320 (by decide +kernel) ?_
                  refine ed_ladd hx hb d_Mo_nearest_321 ?_
                  refine ed_pc (pc' := 322) rfl ?_
                  refine lv_lstore hx hb d_Mo_nearest_322 hl (by decide) rfl (fun ls hl => ?_)
                  have hl : lv_has ls 12 [(8, .long (jI (((q : Int)) + (1)))), (11, .int (iI (0))), (10, .int (iI (1))), (0, .ref mo), (2, .long (jI (((ifz kf : Nat) : Int)))), (4, .int (iI (((fbz kf + 1 : Nat) : Int)))), (5, .int (iI (lez kf))), (6, .int (iI (lez kf + ((jz kf : Nat) : Int) - 1))), (7, .int (iI (z7)))] := hl
                  have hP := hP.sub (ws' := [(mo, .inr (4, [.ref nb, .ref un, .ref ov, .ref xx, .ref dc, .int (iI (zl)), .int (iI (0)), .long (ma), .int (iI (pw)), .int (iI (zk))])), (nb, .inr (3, [.ref nd, .int (iI (((dl X : Nat) : Int))), .int (iI (pt))])), (nd, .inl (cB, 4200, .inl d)), (dc, .inr (2, [.ref dw, .int (iI ((fq : Int))), .int (iI ((tq : Int)))])), (dw, .inl (cI, 465, .inl h))]) [2, 0, 1, 3, 4] rfl
                  have hD := hD.sub (ws' := [(mo, .inr (4, [.ref nb, .ref un, .ref ov, .ref xx, .ref dc, .int (iI (zl)), .int (iI (0)), .long (ma), .int (iI (pw)), .int (iI (zk))])), (nb, .inr (3, [.ref nd, .int (iI (((dl X : Nat) : Int))), .int (iI (pt))])), (nd, .inl (cB, 4200, .inl d)), (dc, .inr (2, [.ref dw, .int (iI ((fq : Int))), .int (iI ((tq : Int)))])), (dw, .inl (cI, 465, .inl h))]) [2, 0, 1, 3, 4] (by decide) rfl
                  have hl := lv_sub hl [3, 4, 5, 6, 7, 8, 0] rfl
                  exact L324 (q) (1) (E) (h) (fq) (tq) _ _ ls H locs (hEz) (by omega) (hnr) (Or.inl ⟨rfl, hup.mpr (by omega)⟩) (by omega) (hdzf) hl hP hD hS
                · exact absurd h_16 (by omega)
            · skip
              refine ed_pc (pc' := 292) rfl ?_
              refine lv_iconst (v := iI 1) hx hb d_Mo_nearest_292 rfl ?_
              refine ed_pc (pc' := 293) rfl ?_
              refine lv_goto (tgt := 297) hx hb d_Mo_nearest_293 rfl ?_
              refine lv_istore hx hb d_Mo_nearest_297 hl (by decide) rfl (fun ls hl => ?_)
              have hl : lv_has ls 12 [(11, .int (iI (1))), (10, .int (iI (1))), (8, .long (jI ((q : Int)))), (0, .ref mo), (2, .long (jI (((ifz kf : Nat) : Int)))), (4, .int (iI (((fbz kf + 1 : Nat) : Int)))), (5, .int (iI (lez kf))), (6, .int (iI (lez kf + ((jz kf : Nat) : Int) - 1))), (7, .int (iI (z7)))] := hl
              refine lv_iload hx hb d_Mo_nearest_299 (lv_at hl 1 rfl) ?_
              refine ed_if_eq (tgt := 324) hx hb d_Mo_nearest_301 rfl (by omega) (fun h_17 => ?_) (fun h_17 => ?_)
              · exact absurd h_17 (by omega)
              · skip
                refine ed_pc (pc' := 304) rfl ?_
                refine lv_iload hx hb d_Mo_nearest_304 (lv_at hl 0 rfl) ?_
                refine ed_if_eq (tgt := 318) hx hb d_Mo_nearest_306 rfl (by omega) (fun h_18 => ?_) (fun h_18 => ?_)
                · exact absurd h_18 (by omega)
                · skip
                  refine ed_pc (pc' := 309) rfl ?_
                  refine lv_lload hx hb d_Mo_nearest_309 (lv_at hl 2 rfl) ?_
                  refine lv_lconst (v := jI 1) hx hb d_Mo_nearest_311 (by decide +kernel) ?_
                  refine ed_pc (pc' := 312) rfl ?_
                  refine lv_land hx hb d_Mo_nearest_312 ?_
                  refine ed_tl (y := (jI (((q % 2 : Nat) : Int)))) (and_1 (by omega)) ?_
                  refine lv_lconst (v := jI 1) hx hb d_Mo_nearest_313 (by decide +kernel) ?_
                  refine ed_lif_ne (tgt := 324) hx hb d_Mo_nearest_314 d_Mo_nearest_315 rfl (by omega) (by omega) (fun h_19 => ?_) (fun h_19 => ?_)
                  · skip
                    refine ed_pc (pc' := 324) rfl ?_
                    have hP := hP.sub (ws' := [(mo, .inr (4, [.ref nb, .ref un, .ref ov, .ref xx, .ref dc, .int (iI (zl)), .int (iI (0)), .long (ma), .int (iI (pw)), .int (iI (zk))])), (nb, .inr (3, [.ref nd, .int (iI (((dl X : Nat) : Int))), .int (iI (pt))])), (nd, .inl (cB, 4200, .inl d)), (dc, .inr (2, [.ref dw, .int (iI ((fq : Int))), .int (iI ((tq : Int)))])), (dw, .inl (cI, 465, .inl h))]) [2, 0, 1, 3, 4] rfl
                    have hD := hD.sub (ws' := [(mo, .inr (4, [.ref nb, .ref un, .ref ov, .ref xx, .ref dc, .int (iI (zl)), .int (iI (0)), .long (ma), .int (iI (pw)), .int (iI (zk))])), (nb, .inr (3, [.ref nd, .int (iI (((dl X : Nat) : Int))), .int (iI (pt))])), (nd, .inl (cB, 4200, .inl d)), (dc, .inr (2, [.ref dw, .int (iI ((fq : Int))), .int (iI ((tq : Int)))])), (dw, .inl (cI, 465, .inl h))]) [2, 0, 1, 3, 4] (by decide) rfl
                    have hl := lv_sub hl [3, 4, 5, 6, 7, 8, 2] rfl
                    exact L324 (q) (0) (E) (h) (fq) (tq) _ _ ls H locs (hEz) (by omega) (hnr) (Or.inr ⟨rfl, fun z => by have := hup.mp z; omega⟩) (by omega) (hdzf) hl hP hD hS
                  · skip
                    refine ed_pc (pc' := 318) rfl ?_
                    refine lv_lload hx hb d_Mo_nearest_318 (lv_at hl 2 rfl) ?_
                    refine lv_lconst (v := jI 1) hx hb d_Mo_nearest_320 (by decide +kernel) ?_
                    refine ed_ladd hx hb d_Mo_nearest_321 ?_
                    refine lv_lstore hx hb d_Mo_nearest_322 hl (by decide) rfl (fun ls hl => ?_)
                    have hl : lv_has ls 12 [(8, .long (jI (((q : Int)) + (1)))), (11, .int (iI (1))), (10, .int (iI (1))), (0, .ref mo), (2, .long (jI (((ifz kf : Nat) : Int)))), (4, .int (iI (((fbz kf + 1 : Nat) : Int)))), (5, .int (iI (lez kf))), (6, .int (iI (lez kf + ((jz kf : Nat) : Int) - 1))), (7, .int (iI (z7)))] := hl
                    have hP := hP.sub (ws' := [(mo, .inr (4, [.ref nb, .ref un, .ref ov, .ref xx, .ref dc, .int (iI (zl)), .int (iI (0)), .long (ma), .int (iI (pw)), .int (iI (zk))])), (nb, .inr (3, [.ref nd, .int (iI (((dl X : Nat) : Int))), .int (iI (pt))])), (nd, .inl (cB, 4200, .inl d)), (dc, .inr (2, [.ref dw, .int (iI ((fq : Int))), .int (iI ((tq : Int)))])), (dw, .inl (cI, 465, .inl h))]) [2, 0, 1, 3, 4] rfl
                    have hD := hD.sub (ws' := [(mo, .inr (4, [.ref nb, .ref un, .ref ov, .ref xx, .ref dc, .int (iI (zl)), .int (iI (0)), .long (ma), .int (iI (pw)), .int (iI (zk))])), (nb, .inr (3, [.ref nd, .int (iI (((dl X : Nat) : Int))), .int (iI (pt))])), (nd, .inl (cB, 4200, .inl d)), (dc, .inr (2, [.ref dw, .int (iI ((fq : Int))), .int (iI ((tq : Int)))])), (dw, .inl (cI, 465, .inl h))]) [2, 0, 1, 3, 4] (by decide) rfl
                    have hl := lv_sub hl [3, 4, 5, 6, 7, 8, 0] rfl
                    exact L324 (q) (1) (E) (h) (fq) (tq) _ _ ls H locs (hEz) (by omega) (hnr) (Or.inl ⟨rfl, hup.mpr (by omega)⟩) (by omega) (hdzf) hl hP hD hS
    · skip
      refine ed_pc (pc' := 217) rfl ?_
      refine lv_iload hx hb d_Mo_nearest_217 (lv_at hl 5 rfl) ?_
      refine lv_iload hx hb d_Mo_nearest_219 (lv_at hl 3 rfl) ?_
      refine ed_icmp_le (tgt := 237) hx hb d_Mo_nearest_221 rfl (by omega) (by omega) (fun h_20 => ?_) (fun h_20 => ?_)
      · skip
        refine ed_pc (pc' := 237) rfl ?_
        obtain ⟨E, hE9⟩ : ∃ E : Nat, E = (z7 - lez kf).toNat := ⟨_, rfl⟩
        have hEz : z7 = lez kf + (E : Int) := by omega
        have hrl2 := nn_rel (X := X) (pt := pt) hkf hrel hT0 (by omega) (by omega) hEz
        have hKp : 0 < (nM (pt - ((dl X : Nat) : Int))) * 2 ^ E := Nat.mul_pos hMp (p2_pos _)
        obtain ⟨q, hqe⟩ : ∃ q : Nat, q = T / W42 := ⟨_, rfl⟩
        have hqb := (on_w hde hfr).2
        rw [← hqe] at hq hqb hbq
        have hqge : 0 < E → 2 ^ fbz kf ≤ q := fun z => by
          rcases Nat.lt_or_ge q (2 ^ fbz kf) with y | y
          · have := bl_iff.mpr y; omega
          · exact y
        have hnr : nr (fbz kf + 1) (nP X (pt - ((dl X : Nat) : Int)) kf) (nM (pt - ((dl X : Nat) : Int))) E q := nn_nr rfl hKp hrl2 hqe hq hqge
        obtain ⟨Pn, hPn⟩ : ∃ Pn : Nat, Pn = 3779 := ⟨_, rfl⟩
        obtain ⟨d9, hd9⟩ : ∃ d9 : Nat, d9 = T / 10 ^ Pn % 10 := ⟨_, rfl⟩
        have hd10 : d9 < 10 := by rw [hd9]; exact dg_lt _ _
        have hup := nn_up (b := (zl = 1)) hPn rfl hKp hrl2 hqe hd9
        obtain ⟨G, hG⟩ : ∃ G : Nat, G = T % 10 ^ Pn := ⟨_, rfl⟩
        rw [← hG] at hup
        have hdzf := de_dz hde
        refine ed_pc (pc' := 237) rfl ?_
        refine lv_aload_n hx hb d_Mo_nearest_237 rfl (lv_at hl 0 rfl) ?_
        refine c_fl (wc := [(mo, .inr (4, [.ref nb, .ref un, .ref ov, .ref xx, .ref dc, .int (iI (zl)), .int (iI (0)), .long (ma), .int (iI (pw)), .int (iI (zk))])), (dc, .inr (2, [.ref dw, .int (iI ((fq : Int))), .int (iI ((tq : Int)))])), (dw, .inl (cI, 465, .inl h))]) (wr := [(nb, .inr (3, [.ref nd, .int (iI (((dl X : Nat) : Int))), .int (iI (pt))])), (nd, .inl (cB, 4200, .inl d))]) (va_runV (C := "ExactDigitsModel") (As := []) (rest := []) ⟨hx, hb, hml, hown, hts⟩ (c_Mo_ones l D cB cI cJ t5 ad mo nb un ov xx dc dw fq tq h zl 0 pw zk ma T hde hfr H.size) (cwV 0 hts (gV tw_551 tw_553 ts_21 tw_3 tw_554) rfl rfl rfl (by decide +kernel) ⟨Nat.le_of_ble_eq_true rfl, Nat.le_of_ble_eq_true rfl⟩) ⟨c_blind (eX_X t5 ad), va_recv (ci := 4) (q0 := 2) hK hP rfl rfl, fun U hU hW => c_pre (wc := [(mo, .inr (4, [.ref nb, .ref un, .ref ov, .ref xx, .ref dc, .int (iI (zl)), .int (iI (0)), .long (ma), .int (iI (pw)), .int (iI (zk))])), (dc, .inr (2, [.ref dw, .int (iI ((fq : Int))), .int (iI ((tq : Int)))])), (dw, .inl (cI, 465, .inl h))]) (eX_X t5 ad) hE hK hP hD hS hA [2, 3, 4] rfl (by decide) U hU hW⟩ rfl rfl hl.1 rfl (lv_room (Nat.le_of_ble_eq_true rfl)) d_Mo_nearest_238 ⟨Nat.le_of_ble_eq_true rfl, Nat.le_of_ble_eq_true rfl⟩) hP hD hS hA [2, 3, 4] [0, 1] rfl rfl (by decide) (by decide) (fun r u H locs hp hP hD hS => ?_)
        obtain ⟨rfl, rfl⟩ := hp
        have hP : va_P D ecl [(nb, .inr (3, [.ref nd, .int (iI (((dl X : Nat) : Int))), .int (iI (pt))])), (nd, .inl (cB, 4200, .inl d)), (mo, .inr (4, [.ref nb, .ref un, .ref ov, .ref xx, .ref dc, .int (iI (zl)), .int (iI (0)), .long (ma), .int (iI (pw)), .int (iI (zk))])), (dc, .inr (2, [.ref dw, .int (iI ((fq : Int))), .int (iI ((tq : Int)))])), (dw, .inl (cI, 465, .inl h))] H := hP
        have hD : va_D A [(nb, .inr (3, [.ref nd, .int (iI (((dl X : Nat) : Int))), .int (iI (pt))])), (nd, .inl (cB, 4200, .inl d)), (mo, .inr (4, [.ref nb, .ref un, .ref ov, .ref xx, .ref dc, .int (iI (zl)), .int (iI (0)), .long (ma), .int (iI (pw)), .int (iI (zk))])), (dc, .inr (2, [.ref dw, .int (iI ((fq : Int))), .int (iI ((tq : Int)))])), (dw, .inl (cI, 465, .inl h))] := hD
        refine ed_tj (y := (q : Int)) (by rw [hqe]) ?_
        refine lv_lstore hx hb d_Mo_nearest_241 hl (by decide) rfl (fun ls hl => ?_)
        have hl : lv_has ls 12 [(8, .long (jI ((q : Int)))), (0, .ref mo), (2, .long (jI (((ifz kf : Nat) : Int)))), (4, .int (iI (((fbz kf + 1 : Nat) : Int)))), (5, .int (iI (lez kf))), (6, .int (iI (lez kf + ((jz kf : Nat) : Int) - 1))), (7, .int (iI (z7)))] := hl
        refine lv_aload_n hx hb d_Mo_nearest_243 rfl (lv_at hl 1 rfl) ?_
        refine va_get (D := D) (ci := 4) (v := .ref dc) (C := R_Mo) (T := T_Mo) (N := 10) hx hb hts (fun w h => List.mem_cons_of_mem _ (in_Mo w h)) hown hK hP 2 rfl rfl 4 (by decide) (hts _ (List.mem_cons_of_mem _ tw_394)) (fun _ h9 => h9) rfl d_Mo_nearest_244 ?_
        refine lv_iconst (v := iI (-1)) hx hb d_Mo_nearest_247 rfl ?_
        refine c_fi (wc := [(dc, .inr (2, [.ref dw, .int (iI ((fq : Int))), .int (iI ((tq : Int)))])), (dw, .inl (cI, 465, .inl h))]) (wr := [(nb, .inr (3, [.ref nd, .int (iI (((dl X : Nat) : Int))), .int (iI (pt))])), (nd, .inl (cB, 4200, .inl d)), (mo, .inr (4, [.ref nb, .ref un, .ref ov, .ref xx, .ref dc, .int (iI (zl)), .int (iI (0)), .long (ma), .int (iI (pw)), .int (iI (zk))]))]) (va_runV (C := "ExactDigitsModel$Decimal") (As := [.int (iI (-1))]) (rest := []) ⟨hx, hb, hml, hown, hts⟩ (c_De_digit l D cB cI cJ t5 ad dc dw fq tq h T Pn (-1) hde (by omega) (by omega) H.size) (cwV 1 hts (gV tw_575 tw_576 tw_577 tw_5 tw_578) rfl rfl rfl (by decide +kernel) ⟨Nat.le_of_ble_eq_true rfl, Nat.le_of_ble_eq_true rfl⟩) ⟨c_blind (eX_X t5 ad), va_recv (ci := 2) (q0 := 3) hK hP rfl rfl, fun U hU hW => c_pre (wc := [(dc, .inr (2, [.ref dw, .int (iI ((fq : Int))), .int (iI ((tq : Int)))])), (dw, .inl (cI, 465, .inl h))]) (eX_X t5 ad) hE hK hP hD hS hA [3, 4] rfl (by decide) U hU hW⟩ rfl rfl hl.1 rfl (lv_room (Nat.le_of_ble_eq_true rfl)) d_Mo_nearest_248 ⟨Nat.le_of_ble_eq_true rfl, Nat.le_of_ble_eq_true rfl⟩) hP hD hS hA [3, 4] [0, 1, 2] rfl rfl (by decide) (by decide) (fun r u H locs hp hP hD hS => ?_)
        obtain ⟨rfl, rfl⟩ := hp
        have hP : va_P D ecl [(nb, .inr (3, [.ref nd, .int (iI (((dl X : Nat) : Int))), .int (iI (pt))])), (nd, .inl (cB, 4200, .inl d)), (mo, .inr (4, [.ref nb, .ref un, .ref ov, .ref xx, .ref dc, .int (iI (zl)), .int (iI (0)), .long (ma), .int (iI (pw)), .int (iI (zk))])), (dc, .inr (2, [.ref dw, .int (iI ((fq : Int))), .int (iI ((tq : Int)))])), (dw, .inl (cI, 465, .inl h))] H := hP
        have hD : va_D A [(nb, .inr (3, [.ref nd, .int (iI (((dl X : Nat) : Int))), .int (iI (pt))])), (nd, .inl (cB, 4200, .inl d)), (mo, .inr (4, [.ref nb, .ref un, .ref ov, .ref xx, .ref dc, .int (iI (zl)), .int (iI (0)), .long (ma), .int (iI (pw)), .int (iI (zk))])), (dc, .inr (2, [.ref dw, .int (iI ((fq : Int))), .int (iI ((tq : Int)))])), (dw, .inl (cI, 465, .inl h))] := hD
        refine ed_tz (y := (d9 : Int)) (by rw [hd9]) ?_
        refine lv_iconst (v := iI 5) hx hb d_Mo_nearest_251 rfl ?_
        refine ed_pc (pc' := 252) rfl ?_
        refine ed_icmp_lt (tgt := 259) hx hb d_Mo_nearest_252 rfl (by omega) (by omega) (fun h_21 => ?_) (fun h_21 => ?_)
        · skip
          refine ed_pc (pc' := 259) rfl ?_
          refine lv_iconst (v := iI 0) hx hb d_Mo_nearest_259 rfl ?_
          refine lv_istore hx hb d_Mo_nearest_260 hl (by decide) rfl (fun ls hl => ?_)
          have hl : lv_has ls 12 [(10, .int (iI (0))), (8, .long (jI ((q : Int)))), (0, .ref mo), (2, .long (jI (((ifz kf : Nat) : Int)))), (4, .int (iI (((fbz kf + 1 : Nat) : Int)))), (5, .int (iI (lez kf))), (6, .int (iI (lez kf + ((jz kf : Nat) : Int) - 1))), (7, .int (iI (z7)))] := hl
          refine lv_aload_n hx hb d_Mo_nearest_262 rfl (lv_at hl 2 rfl) ?_
          refine va_get (D := D) (ci := 4) (v := .ref dc) (C := R_Mo) (T := T_Mo) (N := 10) hx hb hts (fun w h => List.mem_cons_of_mem _ (in_Mo w h)) hown hK hP 2 rfl rfl 4 (by decide) (hts _ (List.mem_cons_of_mem _ tw_394)) (fun _ h9 => h9) rfl d_Mo_nearest_263 ?_
          refine lv_iconst (v := iI (-1)) hx hb d_Mo_nearest_266 rfl ?_
          refine c_fi (wc := [(dc, .inr (2, [.ref dw, .int (iI ((fq : Int))), .int (iI ((tq : Int)))])), (dw, .inl (cI, 465, .inl h))]) (wr := [(nb, .inr (3, [.ref nd, .int (iI (((dl X : Nat) : Int))), .int (iI (pt))])), (nd, .inl (cB, 4200, .inl d)), (mo, .inr (4, [.ref nb, .ref un, .ref ov, .ref xx, .ref dc, .int (iI (zl)), .int (iI (0)), .long (ma), .int (iI (pw)), .int (iI (zk))]))]) (va_runV (C := "ExactDigitsModel$Decimal") (As := [.int (iI (-1))]) (rest := []) ⟨hx, hb, hml, hown, hts⟩ (c_De_digit l D cB cI cJ t5 ad dc dw fq tq h T Pn (-1) hde (by omega) (by omega) H.size) (cwV 1 hts (gV tw_575 tw_576 tw_577 tw_5 tw_578) rfl rfl rfl (by decide +kernel) ⟨Nat.le_of_ble_eq_true rfl, Nat.le_of_ble_eq_true rfl⟩) ⟨c_blind (eX_X t5 ad), va_recv (ci := 2) (q0 := 3) hK hP rfl rfl, fun U hU hW => c_pre (wc := [(dc, .inr (2, [.ref dw, .int (iI ((fq : Int))), .int (iI ((tq : Int)))])), (dw, .inl (cI, 465, .inl h))]) (eX_X t5 ad) hE hK hP hD hS hA [3, 4] rfl (by decide) U hU hW⟩ rfl rfl hl.1 rfl (lv_room (Nat.le_of_ble_eq_true rfl)) d_Mo_nearest_267 ⟨Nat.le_of_ble_eq_true rfl, Nat.le_of_ble_eq_true rfl⟩) hP hD hS hA [3, 4] [0, 1, 2] rfl rfl (by decide) (by decide) (fun r u H locs hp hP hD hS => ?_)
          obtain ⟨rfl, rfl⟩ := hp
          have hP : va_P D ecl [(nb, .inr (3, [.ref nd, .int (iI (((dl X : Nat) : Int))), .int (iI (pt))])), (nd, .inl (cB, 4200, .inl d)), (mo, .inr (4, [.ref nb, .ref un, .ref ov, .ref xx, .ref dc, .int (iI (zl)), .int (iI (0)), .long (ma), .int (iI (pw)), .int (iI (zk))])), (dc, .inr (2, [.ref dw, .int (iI ((fq : Int))), .int (iI ((tq : Int)))])), (dw, .inl (cI, 465, .inl h))] H := hP
          have hD : va_D A [(nb, .inr (3, [.ref nd, .int (iI (((dl X : Nat) : Int))), .int (iI (pt))])), (nd, .inl (cB, 4200, .inl d)), (mo, .inr (4, [.ref nb, .ref un, .ref ov, .ref xx, .ref dc, .int (iI (zl)), .int (iI (0)), .long (ma), .int (iI (pw)), .int (iI (zk))])), (dc, .inr (2, [.ref dw, .int (iI ((fq : Int))), .int (iI ((tq : Int)))])), (dw, .inl (cI, 465, .inl h))] := hD
          refine ed_tz (y := (d9 : Int)) (by rw [hd9]) ?_
          refine lv_iconst (v := iI 5) hx hb d_Mo_nearest_270 rfl ?_
          refine ed_pc (pc' := 271) rfl ?_
          refine ed_icmp_ne (tgt := 296) hx hb d_Mo_nearest_271 rfl (by omega) (by omega) (fun h_22 => ?_) (fun h_22 => ?_)
          · skip
            refine ed_pc (pc' := 296) rfl ?_
            refine lv_iconst (v := iI 0) hx hb d_Mo_nearest_296 rfl ?_
            refine lv_istore hx hb d_Mo_nearest_297 hl (by decide) rfl (fun ls hl => ?_)
            have hl : lv_has ls 12 [(11, .int (iI (0))), (10, .int (iI (0))), (8, .long (jI ((q : Int)))), (0, .ref mo), (2, .long (jI (((ifz kf : Nat) : Int)))), (4, .int (iI (((fbz kf + 1 : Nat) : Int)))), (5, .int (iI (lez kf))), (6, .int (iI (lez kf + ((jz kf : Nat) : Int) - 1))), (7, .int (iI (z7)))] := hl
            refine lv_iload hx hb d_Mo_nearest_299 (lv_at hl 1 rfl) ?_
            refine ed_if_eq (tgt := 324) hx hb d_Mo_nearest_301 rfl (by omega) (fun h_23 => ?_) (fun h_23 => ?_)
            · skip
              refine ed_pc (pc' := 324) rfl ?_
              have hP := hP.sub (ws' := [(mo, .inr (4, [.ref nb, .ref un, .ref ov, .ref xx, .ref dc, .int (iI (zl)), .int (iI (0)), .long (ma), .int (iI (pw)), .int (iI (zk))])), (nb, .inr (3, [.ref nd, .int (iI (((dl X : Nat) : Int))), .int (iI (pt))])), (nd, .inl (cB, 4200, .inl d)), (dc, .inr (2, [.ref dw, .int (iI ((fq : Int))), .int (iI ((tq : Int)))])), (dw, .inl (cI, 465, .inl h))]) [2, 0, 1, 3, 4] rfl
              have hD := hD.sub (ws' := [(mo, .inr (4, [.ref nb, .ref un, .ref ov, .ref xx, .ref dc, .int (iI (zl)), .int (iI (0)), .long (ma), .int (iI (pw)), .int (iI (zk))])), (nb, .inr (3, [.ref nd, .int (iI (((dl X : Nat) : Int))), .int (iI (pt))])), (nd, .inl (cB, 4200, .inl d)), (dc, .inr (2, [.ref dw, .int (iI ((fq : Int))), .int (iI ((tq : Int)))])), (dw, .inl (cI, 465, .inl h))]) [2, 0, 1, 3, 4] (by decide) rfl
              have hl := lv_sub hl [3, 4, 5, 6, 7, 8, 2] rfl
              exact L324 (q) (0) (E) (h) (fq) (tq) _ _ ls H locs (hEz) (by omega) (hnr) (Or.inr ⟨rfl, fun z => by have := hup.mp z; omega⟩) (by omega) (hdzf) hl hP hD hS
            · exact absurd h_23 (by omega)
          · exact absurd h_22 (by omega)
        · skip
          refine ed_pc (pc' := 255) rfl ?_
          refine lv_iconst (v := iI 1) hx hb d_Mo_nearest_255 rfl ?_
          refine lv_goto (tgt := 260) hx hb d_Mo_nearest_256 rfl ?_
          refine lv_istore hx hb d_Mo_nearest_260 hl (by decide) rfl (fun ls hl => ?_)
          have hl : lv_has ls 12 [(10, .int (iI (1))), (8, .long (jI ((q : Int)))), (0, .ref mo), (2, .long (jI (((ifz kf : Nat) : Int)))), (4, .int (iI (((fbz kf + 1 : Nat) : Int)))), (5, .int (iI (lez kf))), (6, .int (iI (lez kf + ((jz kf : Nat) : Int) - 1))), (7, .int (iI (z7)))] := hl
          refine lv_aload_n hx hb d_Mo_nearest_262 rfl (lv_at hl 2 rfl) ?_
          refine va_get (D := D) (ci := 4) (v := .ref dc) (C := R_Mo) (T := T_Mo) (N := 10) hx hb hts (fun w h => List.mem_cons_of_mem _ (in_Mo w h)) hown hK hP 2 rfl rfl 4 (by decide) (hts _ (List.mem_cons_of_mem _ tw_394)) (fun _ h9 => h9) rfl d_Mo_nearest_263 ?_
          refine lv_iconst (v := iI (-1)) hx hb d_Mo_nearest_266 rfl ?_
          refine c_fi (wc := [(dc, .inr (2, [.ref dw, .int (iI ((fq : Int))), .int (iI ((tq : Int)))])), (dw, .inl (cI, 465, .inl h))]) (wr := [(nb, .inr (3, [.ref nd, .int (iI (((dl X : Nat) : Int))), .int (iI (pt))])), (nd, .inl (cB, 4200, .inl d)), (mo, .inr (4, [.ref nb, .ref un, .ref ov, .ref xx, .ref dc, .int (iI (zl)), .int (iI (0)), .long (ma), .int (iI (pw)), .int (iI (zk))]))]) (va_runV (C := "ExactDigitsModel$Decimal") (As := [.int (iI (-1))]) (rest := []) ⟨hx, hb, hml, hown, hts⟩ (c_De_digit l D cB cI cJ t5 ad dc dw fq tq h T Pn (-1) hde (by omega) (by omega) H.size) (cwV 1 hts (gV tw_575 tw_576 tw_577 tw_5 tw_578) rfl rfl rfl (by decide +kernel) ⟨Nat.le_of_ble_eq_true rfl, Nat.le_of_ble_eq_true rfl⟩) ⟨c_blind (eX_X t5 ad), va_recv (ci := 2) (q0 := 3) hK hP rfl rfl, fun U hU hW => c_pre (wc := [(dc, .inr (2, [.ref dw, .int (iI ((fq : Int))), .int (iI ((tq : Int)))])), (dw, .inl (cI, 465, .inl h))]) (eX_X t5 ad) hE hK hP hD hS hA [3, 4] rfl (by decide) U hU hW⟩ rfl rfl hl.1 rfl (lv_room (Nat.le_of_ble_eq_true rfl)) d_Mo_nearest_267 ⟨Nat.le_of_ble_eq_true rfl, Nat.le_of_ble_eq_true rfl⟩) hP hD hS hA [3, 4] [0, 1, 2] rfl rfl (by decide) (by decide) (fun r u H locs hp hP hD hS => ?_)
          obtain ⟨rfl, rfl⟩ := hp
          have hP : va_P D ecl [(nb, .inr (3, [.ref nd, .int (iI (((dl X : Nat) : Int))), .int (iI (pt))])), (nd, .inl (cB, 4200, .inl d)), (mo, .inr (4, [.ref nb, .ref un, .ref ov, .ref xx, .ref dc, .int (iI (zl)), .int (iI (0)), .long (ma), .int (iI (pw)), .int (iI (zk))])), (dc, .inr (2, [.ref dw, .int (iI ((fq : Int))), .int (iI ((tq : Int)))])), (dw, .inl (cI, 465, .inl h))] H := hP
          have hD : va_D A [(nb, .inr (3, [.ref nd, .int (iI (((dl X : Nat) : Int))), .int (iI (pt))])), (nd, .inl (cB, 4200, .inl d)), (mo, .inr (4, [.ref nb, .ref un, .ref ov, .ref xx, .ref dc, .int (iI (zl)), .int (iI (0)), .long (ma), .int (iI (pw)), .int (iI (zk))])), (dc, .inr (2, [.ref dw, .int (iI ((fq : Int))), .int (iI ((tq : Int)))])), (dw, .inl (cI, 465, .inl h))] := hD
          refine ed_tz (y := (d9 : Int)) (by rw [hd9]) ?_
          refine ed_pc (pc' := 270) rfl ?_
          refine lv_iconst (v := iI 5) hx hb d_Mo_nearest_270 rfl ?_
          refine ed_icmp_ne (tgt := 296) hx hb d_Mo_nearest_271 rfl (by omega) (by omega) (fun h_24 => ?_) (fun h_24 => ?_)
          · skip
            refine ed_pc (pc' := 296) rfl ?_
            refine lv_iconst (v := iI 0) hx hb d_Mo_nearest_296 rfl ?_
            refine lv_istore hx hb d_Mo_nearest_297 hl (by decide) rfl (fun ls hl => ?_)
            have hl : lv_has ls 12 [(11, .int (iI (0))), (10, .int (iI (1))), (8, .long (jI ((q : Int)))), (0, .ref mo), (2, .long (jI (((ifz kf : Nat) : Int)))), (4, .int (iI (((fbz kf + 1 : Nat) : Int)))), (5, .int (iI (lez kf))), (6, .int (iI (lez kf + ((jz kf : Nat) : Int) - 1))), (7, .int (iI (z7)))] := hl
            refine lv_iload hx hb d_Mo_nearest_299 (lv_at hl 1 rfl) ?_
            refine ed_if_eq (tgt := 324) hx hb d_Mo_nearest_301 rfl (by omega) (fun h_25 => ?_) (fun h_25 => ?_)
            · exact absurd h_25 (by omega)
            · skip
              refine ed_pc (pc' := 304) rfl ?_
              refine lv_iload hx hb d_Mo_nearest_304 (lv_at hl 0 rfl) ?_
              refine ed_if_eq (tgt := 318) hx hb d_Mo_nearest_306 rfl (by omega) (fun h_26 => ?_) (fun h_26 => ?_)
              · skip
                refine ed_pc (pc' := 318) rfl ?_
                refine ed_pc (pc' := 318) rfl ?_
                refine lv_lload hx hb d_Mo_nearest_318 (lv_at hl 2 rfl) ?_
                refine lv_lconst (v := jI 1) hx hb d_Mo_nearest_320 (by decide +kernel) ?_
                refine ed_ladd hx hb d_Mo_nearest_321 ?_
                refine lv_lstore hx hb d_Mo_nearest_322 hl (by decide) rfl (fun ls hl => ?_)
                have hl : lv_has ls 12 [(8, .long (jI (((q : Int)) + (1)))), (11, .int (iI (0))), (10, .int (iI (1))), (0, .ref mo), (2, .long (jI (((ifz kf : Nat) : Int)))), (4, .int (iI (((fbz kf + 1 : Nat) : Int)))), (5, .int (iI (lez kf))), (6, .int (iI (lez kf + ((jz kf : Nat) : Int) - 1))), (7, .int (iI (z7)))] := hl
                have hP := hP.sub (ws' := [(mo, .inr (4, [.ref nb, .ref un, .ref ov, .ref xx, .ref dc, .int (iI (zl)), .int (iI (0)), .long (ma), .int (iI (pw)), .int (iI (zk))])), (nb, .inr (3, [.ref nd, .int (iI (((dl X : Nat) : Int))), .int (iI (pt))])), (nd, .inl (cB, 4200, .inl d)), (dc, .inr (2, [.ref dw, .int (iI ((fq : Int))), .int (iI ((tq : Int)))])), (dw, .inl (cI, 465, .inl h))]) [2, 0, 1, 3, 4] rfl
                have hD := hD.sub (ws' := [(mo, .inr (4, [.ref nb, .ref un, .ref ov, .ref xx, .ref dc, .int (iI (zl)), .int (iI (0)), .long (ma), .int (iI (pw)), .int (iI (zk))])), (nb, .inr (3, [.ref nd, .int (iI (((dl X : Nat) : Int))), .int (iI (pt))])), (nd, .inl (cB, 4200, .inl d)), (dc, .inr (2, [.ref dw, .int (iI ((fq : Int))), .int (iI ((tq : Int)))])), (dw, .inl (cI, 465, .inl h))]) [2, 0, 1, 3, 4] (by decide) rfl
                have hl := lv_sub hl [3, 4, 5, 6, 7, 8, 0] rfl
                exact L324 (q) (1) (E) (h) (fq) (tq) _ _ ls H locs (hEz) (by omega) (hnr) (Or.inl ⟨rfl, hup.mpr (by omega)⟩) (by omega) (hdzf) hl hP hD hS
              · exact absurd h_26 (by omega)
          · skip
            refine ed_pc (pc' := 274) rfl ?_
            refine lv_aload_n hx hb d_Mo_nearest_274 rfl (lv_at hl 2 rfl) ?_
            refine va_get (D := D) (ci := 4) (v := .ref dc) (C := R_Mo) (T := T_Mo) (N := 10) hx hb hts (fun w h => List.mem_cons_of_mem _ (in_Mo w h)) hown hK hP 2 rfl rfl 4 (by decide) (hts _ (List.mem_cons_of_mem _ tw_394)) (fun _ h9 => h9) rfl d_Mo_nearest_275 ?_
            refine lv_iconst (v := iI (-1)) hx hb d_Mo_nearest_278 rfl ?_
            refine c_fi (wc := [(dc, .inr (2, [.ref dw, .int (iI ((fq : Int))), .int (iI ((tq : Int)))])), (dw, .inl (cI, 465, .inl h))]) (wr := [(nb, .inr (3, [.ref nd, .int (iI (((dl X : Nat) : Int))), .int (iI (pt))])), (nd, .inl (cB, 4200, .inl d)), (mo, .inr (4, [.ref nb, .ref un, .ref ov, .ref xx, .ref dc, .int (iI (zl)), .int (iI (0)), .long (ma), .int (iI (pw)), .int (iI (zk))]))]) (va_runV (C := "ExactDigitsModel$Decimal") (As := [.int (iI (-1))]) (rest := []) ⟨hx, hb, hml, hown, hts⟩ (c_De_isBelow l D cB cI cJ t5 ad dc dw fq tq h T Pn (-1) hde (by omega) (by omega) H.size) (cwV 1 hts (gV tw_579 tw_580 tw_581 tw_5 tw_582) rfl rfl rfl (by decide +kernel) ⟨Nat.le_of_ble_eq_true rfl, Nat.le_of_ble_eq_true rfl⟩) ⟨c_blind (eX_X t5 ad), va_recv (ci := 2) (q0 := 3) hK hP rfl rfl, fun U hU hW => c_pre (wc := [(dc, .inr (2, [.ref dw, .int (iI ((fq : Int))), .int (iI ((tq : Int)))])), (dw, .inl (cI, 465, .inl h))]) (eX_X t5 ad) hE hK hP hD hS hA [3, 4] rfl (by decide) U hU hW⟩ rfl rfl hl.1 rfl (lv_room (Nat.le_of_ble_eq_true rfl)) d_Mo_nearest_279 ⟨Nat.le_of_ble_eq_true rfl, Nat.le_of_ble_eq_true rfl⟩) hP hD hS hA [3, 4] [0, 1, 2] rfl rfl (by decide) (by decide) (fun r u H locs hp hP hD hS => ?_)
            obtain ⟨⟨zb, rfl, hzb⟩, rfl⟩ := hp
            have hP : va_P D ecl [(nb, .inr (3, [.ref nd, .int (iI (((dl X : Nat) : Int))), .int (iI (pt))])), (nd, .inl (cB, 4200, .inl d)), (mo, .inr (4, [.ref nb, .ref un, .ref ov, .ref xx, .ref dc, .int (iI (zl)), .int (iI (0)), .long (ma), .int (iI (pw)), .int (iI (zk))])), (dc, .inr (2, [.ref dw, .int (iI ((fq : Int))), .int (iI ((tq : Int)))])), (dw, .inl (cI, 465, .inl h))] H := hP
            have hD : va_D A [(nb, .inr (3, [.ref nd, .int (iI (((dl X : Nat) : Int))), .int (iI (pt))])), (nd, .inl (cB, 4200, .inl d)), (mo, .inr (4, [.ref nb, .ref un, .ref ov, .ref xx, .ref dc, .int (iI (zl)), .int (iI (0)), .long (ma), .int (iI (pw)), .int (iI (zk))])), (dc, .inr (2, [.ref dw, .int (iI ((fq : Int))), .int (iI ((tq : Int)))])), (dw, .inl (cI, 465, .inl h))] := hD
            rw [← hG] at hzb
            refine ed_if_ne (tgt := 296) hx hb d_Mo_nearest_282 rfl (by omega) (fun h_27 => ?_) (fun h_27 => ?_)
            · skip
              refine ed_pc (pc' := 296) rfl ?_
              refine lv_iconst (v := iI 0) hx hb d_Mo_nearest_296 rfl ?_
              refine ed_pc (pc' := 297) rfl ?_
              refine lv_istore hx hb d_Mo_nearest_297 hl (by decide) rfl (fun ls hl => ?_)
              have hl : lv_has ls 12 [(11, .int (iI (0))), (10, .int (iI (1))), (8, .long (jI ((q : Int)))), (0, .ref mo), (2, .long (jI (((ifz kf : Nat) : Int)))), (4, .int (iI (((fbz kf + 1 : Nat) : Int)))), (5, .int (iI (lez kf))), (6, .int (iI (lez kf + ((jz kf : Nat) : Int) - 1))), (7, .int (iI (z7)))] := hl
              refine lv_iload hx hb d_Mo_nearest_299 (lv_at hl 1 rfl) ?_
              refine ed_if_eq (tgt := 324) hx hb d_Mo_nearest_301 rfl (by omega) (fun h_28 => ?_) (fun h_28 => ?_)
              · exact absurd h_28 (by omega)
              · skip
                refine ed_pc (pc' := 304) rfl ?_
                refine lv_iload hx hb d_Mo_nearest_304 (lv_at hl 0 rfl) ?_
                refine ed_if_eq (tgt := 318) hx hb d_Mo_nearest_306 rfl (by omega) (fun h_29 => ?_) (fun h_29 => ?_)
                · skip
                  refine ed_pc (pc' := 318) rfl ?_
                  refine lv_lload hx hb d_Mo_nearest_318 (lv_at hl 2 rfl) ?_
                  refine lv_lconst (v := jI 1) hx hb d_Mo_nearest_320 (by decide +kernel) ?_
                  refine ed_ladd hx hb d_Mo_nearest_321 ?_
                  refine ed_pc (pc' := 322) rfl ?_
                  refine lv_lstore hx hb d_Mo_nearest_322 hl (by decide) rfl (fun ls hl => ?_)
                  have hl : lv_has ls 12 [(8, .long (jI (((q : Int)) + (1)))), (11, .int (iI (0))), (10, .int (iI (1))), (0, .ref mo), (2, .long (jI (((ifz kf : Nat) : Int)))), (4, .int (iI (((fbz kf + 1 : Nat) : Int)))), (5, .int (iI (lez kf))), (6, .int (iI (lez kf + ((jz kf : Nat) : Int) - 1))), (7, .int (iI (z7)))] := hl
                  have hP := hP.sub (ws' := [(mo, .inr (4, [.ref nb, .ref un, .ref ov, .ref xx, .ref dc, .int (iI (zl)), .int (iI (0)), .long (ma), .int (iI (pw)), .int (iI (zk))])), (nb, .inr (3, [.ref nd, .int (iI (((dl X : Nat) : Int))), .int (iI (pt))])), (nd, .inl (cB, 4200, .inl d)), (dc, .inr (2, [.ref dw, .int (iI ((fq : Int))), .int (iI ((tq : Int)))])), (dw, .inl (cI, 465, .inl h))]) [2, 0, 1, 3, 4] rfl
                  have hD := hD.sub (ws' := [(mo, .inr (4, [.ref nb, .ref un, .ref ov, .ref xx, .ref dc, .int (iI (zl)), .int (iI (0)), .long (ma), .int (iI (pw)), .int (iI (zk))])), (nb, .inr (3, [.ref nd, .int (iI (((dl X : Nat) : Int))), .int (iI (pt))])), (nd, .inl (cB, 4200, .inl d)), (dc, .inr (2, [.ref dw, .int (iI ((fq : Int))), .int (iI ((tq : Int)))])), (dw, .inl (cI, 465, .inl h))]) [2, 0, 1, 3, 4] (by decide) rfl
                  have hl := lv_sub hl [3, 4, 5, 6, 7, 8, 0] rfl
                  exact L324 (q) (1) (E) (h) (fq) (tq) _ _ ls H locs (hEz) (by omega) (hnr) (Or.inl ⟨rfl, hup.mpr (by omega)⟩) (by omega) (hdzf) hl hP hD hS
                · exact absurd h_29 (by omega)
            · skip
              refine ed_pc (pc' := 285) rfl ?_
              refine lv_aload_n hx hb d_Mo_nearest_285 rfl (lv_at hl 2 rfl) ?_
              refine ed_pc (pc' := 286) rfl ?_
              refine va_get (D := D) (ci := 4) (v := .int (iI (zl))) (C := R_Mo) (T := T_Mo) (N := 10) hx hb hts (fun w h => List.mem_cons_of_mem _ (in_Mo w h)) hown hK hP 2 rfl rfl 5 (by decide) (hts _ (List.mem_cons_of_mem _ tw_395)) (fun _ h9 => h9) rfl d_Mo_nearest_286 ?_
              refine ed_if_ne (tgt := 296) hx hb d_Mo_nearest_289 rfl (by omega) (fun h_30 => ?_) (fun h_30 => ?_)
              · skip
                refine ed_pc (pc' := 296) rfl ?_
                refine lv_iconst (v := iI 0) hx hb d_Mo_nearest_296 rfl ?_
                refine lv_istore hx hb d_Mo_nearest_297 hl (by decide) rfl (fun ls hl => ?_)
                have hl : lv_has ls 12 [(11, .int (iI (0))), (10, .int (iI (1))), (8, .long (jI ((q : Int)))), (0, .ref mo), (2, .long (jI (((ifz kf : Nat) : Int)))), (4, .int (iI (((fbz kf + 1 : Nat) : Int)))), (5, .int (iI (lez kf))), (6, .int (iI (lez kf + ((jz kf : Nat) : Int) - 1))), (7, .int (iI (z7)))] := hl
                refine lv_iload hx hb d_Mo_nearest_299 (lv_at hl 1 rfl) ?_
                refine ed_if_eq (tgt := 324) hx hb d_Mo_nearest_301 rfl (by omega) (fun h_31 => ?_) (fun h_31 => ?_)
                · exact absurd h_31 (by omega)
                · skip
                  refine ed_pc (pc' := 304) rfl ?_
                  refine lv_iload hx hb d_Mo_nearest_304 (lv_at hl 0 rfl) ?_
                  refine ed_if_eq (tgt := 318) hx hb d_Mo_nearest_306 rfl (by omega) (fun h_32 => ?_) (fun h_32 => ?_)
                  · skip
                    refine ed_pc (pc' := 318) rfl ?_
                    refine ed_pc (pc' := 318) rfl ?_
                    refine lv_lload hx hb d_Mo_nearest_318 (lv_at hl 2 rfl) ?_
                    refine lv_lconst (v := jI 1) hx hb d_Mo_nearest_320 (by decide +kernel) ?_
                    refine ed_ladd hx hb d_Mo_nearest_321 ?_
                    refine lv_lstore hx hb d_Mo_nearest_322 hl (by decide) rfl (fun ls hl => ?_)
                    have hl : lv_has ls 12 [(8, .long (jI (((q : Int)) + (1)))), (11, .int (iI (0))), (10, .int (iI (1))), (0, .ref mo), (2, .long (jI (((ifz kf : Nat) : Int)))), (4, .int (iI (((fbz kf + 1 : Nat) : Int)))), (5, .int (iI (lez kf))), (6, .int (iI (lez kf + ((jz kf : Nat) : Int) - 1))), (7, .int (iI (z7)))] := hl
                    have hP := hP.sub (ws' := [(mo, .inr (4, [.ref nb, .ref un, .ref ov, .ref xx, .ref dc, .int (iI (zl)), .int (iI (0)), .long (ma), .int (iI (pw)), .int (iI (zk))])), (nb, .inr (3, [.ref nd, .int (iI (((dl X : Nat) : Int))), .int (iI (pt))])), (nd, .inl (cB, 4200, .inl d)), (dc, .inr (2, [.ref dw, .int (iI ((fq : Int))), .int (iI ((tq : Int)))])), (dw, .inl (cI, 465, .inl h))]) [2, 0, 1, 3, 4] rfl
                    have hD := hD.sub (ws' := [(mo, .inr (4, [.ref nb, .ref un, .ref ov, .ref xx, .ref dc, .int (iI (zl)), .int (iI (0)), .long (ma), .int (iI (pw)), .int (iI (zk))])), (nb, .inr (3, [.ref nd, .int (iI (((dl X : Nat) : Int))), .int (iI (pt))])), (nd, .inl (cB, 4200, .inl d)), (dc, .inr (2, [.ref dw, .int (iI ((fq : Int))), .int (iI ((tq : Int)))])), (dw, .inl (cI, 465, .inl h))]) [2, 0, 1, 3, 4] (by decide) rfl
                    have hl := lv_sub hl [3, 4, 5, 6, 7, 8, 0] rfl
                    exact L324 (q) (1) (E) (h) (fq) (tq) _ _ ls H locs (hEz) (by omega) (hnr) (Or.inl ⟨rfl, hup.mpr (by omega)⟩) (by omega) (hdzf) hl hP hD hS
                  · exact absurd h_32 (by omega)
              · skip
                refine ed_pc (pc' := 292) rfl ?_
                refine lv_iconst (v := iI 1) hx hb d_Mo_nearest_292 rfl ?_
                refine lv_goto (tgt := 297) hx hb d_Mo_nearest_293 rfl ?_
                refine lv_istore hx hb d_Mo_nearest_297 hl (by decide) rfl (fun ls hl => ?_)
                have hl : lv_has ls 12 [(11, .int (iI (1))), (10, .int (iI (1))), (8, .long (jI ((q : Int)))), (0, .ref mo), (2, .long (jI (((ifz kf : Nat) : Int)))), (4, .int (iI (((fbz kf + 1 : Nat) : Int)))), (5, .int (iI (lez kf))), (6, .int (iI (lez kf + ((jz kf : Nat) : Int) - 1))), (7, .int (iI (z7)))] := hl
                refine lv_iload hx hb d_Mo_nearest_299 (lv_at hl 1 rfl) ?_
                refine ed_if_eq (tgt := 324) hx hb d_Mo_nearest_301 rfl (by omega) (fun h_33 => ?_) (fun h_33 => ?_)
                · exact absurd h_33 (by omega)
                · skip
                  refine ed_pc (pc' := 304) rfl ?_
                  refine lv_iload hx hb d_Mo_nearest_304 (lv_at hl 0 rfl) ?_
                  refine ed_pc (pc' := 306) rfl ?_
                  refine ed_if_eq (tgt := 318) hx hb d_Mo_nearest_306 rfl (by omega) (fun h_34 => ?_) (fun h_34 => ?_)
                  · exact absurd h_34 (by omega)
                  · skip
                    refine ed_pc (pc' := 309) rfl ?_
                    refine lv_lload hx hb d_Mo_nearest_309 (lv_at hl 2 rfl) ?_
                    refine lv_lconst (v := jI 1) hx hb d_Mo_nearest_311 (by decide +kernel) ?_
                    refine lv_land hx hb d_Mo_nearest_312 ?_
                    refine ed_tl (y := (jI (((q % 2 : Nat) : Int)))) (and_1 (by omega)) ?_
                    refine lv_lconst (v := jI 1) hx hb d_Mo_nearest_313 (by decide +kernel) ?_
                    refine ed_lif_ne (tgt := 324) hx hb d_Mo_nearest_314 d_Mo_nearest_315 rfl (by omega) (by omega) (fun h_35 => ?_) (fun h_35 => ?_)
                    · skip
                      refine ed_pc (pc' := 324) rfl ?_
                      have hP := hP.sub (ws' := [(mo, .inr (4, [.ref nb, .ref un, .ref ov, .ref xx, .ref dc, .int (iI (zl)), .int (iI (0)), .long (ma), .int (iI (pw)), .int (iI (zk))])), (nb, .inr (3, [.ref nd, .int (iI (((dl X : Nat) : Int))), .int (iI (pt))])), (nd, .inl (cB, 4200, .inl d)), (dc, .inr (2, [.ref dw, .int (iI ((fq : Int))), .int (iI ((tq : Int)))])), (dw, .inl (cI, 465, .inl h))]) [2, 0, 1, 3, 4] rfl
                      have hD := hD.sub (ws' := [(mo, .inr (4, [.ref nb, .ref un, .ref ov, .ref xx, .ref dc, .int (iI (zl)), .int (iI (0)), .long (ma), .int (iI (pw)), .int (iI (zk))])), (nb, .inr (3, [.ref nd, .int (iI (((dl X : Nat) : Int))), .int (iI (pt))])), (nd, .inl (cB, 4200, .inl d)), (dc, .inr (2, [.ref dw, .int (iI ((fq : Int))), .int (iI ((tq : Int)))])), (dw, .inl (cI, 465, .inl h))]) [2, 0, 1, 3, 4] (by decide) rfl
                      have hl := lv_sub hl [3, 4, 5, 6, 7, 8, 2] rfl
                      exact L324 (q) (0) (E) (h) (fq) (tq) _ _ ls H locs (hEz) (by omega) (hnr) (Or.inr ⟨rfl, fun z => by have := hup.mp z; omega⟩) (by omega) (hdzf) hl hP hD hS
                    · skip
                      refine ed_pc (pc' := 318) rfl ?_
                      refine lv_lload hx hb d_Mo_nearest_318 (lv_at hl 2 rfl) ?_
                      refine lv_lconst (v := jI 1) hx hb d_Mo_nearest_320 (by decide +kernel) ?_
                      refine ed_pc (pc' := 321) rfl ?_
                      refine ed_ladd hx hb d_Mo_nearest_321 ?_
                      refine lv_lstore hx hb d_Mo_nearest_322 hl (by decide) rfl (fun ls hl => ?_)
                      have hl : lv_has ls 12 [(8, .long (jI (((q : Int)) + (1)))), (11, .int (iI (1))), (10, .int (iI (1))), (0, .ref mo), (2, .long (jI (((ifz kf : Nat) : Int)))), (4, .int (iI (((fbz kf + 1 : Nat) : Int)))), (5, .int (iI (lez kf))), (6, .int (iI (lez kf + ((jz kf : Nat) : Int) - 1))), (7, .int (iI (z7)))] := hl
                      have hP := hP.sub (ws' := [(mo, .inr (4, [.ref nb, .ref un, .ref ov, .ref xx, .ref dc, .int (iI (zl)), .int (iI (0)), .long (ma), .int (iI (pw)), .int (iI (zk))])), (nb, .inr (3, [.ref nd, .int (iI (((dl X : Nat) : Int))), .int (iI (pt))])), (nd, .inl (cB, 4200, .inl d)), (dc, .inr (2, [.ref dw, .int (iI ((fq : Int))), .int (iI ((tq : Int)))])), (dw, .inl (cI, 465, .inl h))]) [2, 0, 1, 3, 4] rfl
                      have hD := hD.sub (ws' := [(mo, .inr (4, [.ref nb, .ref un, .ref ov, .ref xx, .ref dc, .int (iI (zl)), .int (iI (0)), .long (ma), .int (iI (pw)), .int (iI (zk))])), (nb, .inr (3, [.ref nd, .int (iI (((dl X : Nat) : Int))), .int (iI (pt))])), (nd, .inl (cB, 4200, .inl d)), (dc, .inr (2, [.ref dw, .int (iI ((fq : Int))), .int (iI ((tq : Int)))])), (dw, .inl (cI, 465, .inl h))]) [2, 0, 1, 3, 4] (by decide) rfl
                      have hl := lv_sub hl [3, 4, 5, 6, 7, 8, 0] rfl
                      exact L324 (q) (1) (E) (h) (fq) (tq) _ _ ls H locs (hEz) (by omega) (hnr) (Or.inl ⟨rfl, hup.mpr (by omega)⟩) (by omega) (hdzf) hl hP hD hS
      · skip
        refine ed_pc (pc' := 224) rfl ?_
        have hq2 := q_tw (T := T) (a := fbz kf) (by omega)
        refine ed_pc (pc' := 224) rfl ?_
        refine lv_aload_n hx hb d_Mo_nearest_224 rfl (lv_at hl 0 rfl) ?_
        refine va_get (D := D) (ci := 4) (v := .ref dc) (C := R_Mo) (T := T_Mo) (N := 10) hx hb hts (fun w h => List.mem_cons_of_mem _ (in_Mo w h)) hown hK hP 2 rfl rfl 4 (by decide) (hts _ (List.mem_cons_of_mem _ tw_394)) (fun _ h9 => h9) rfl d_Mo_nearest_225 ?_
        refine c_fv (wc := [(dc, .inr (2, [.ref dw, .int (iI ((fq : Int))), .int (iI ((tq : Int)))])), (dw, .inl (cI, 465, .inl h))]) (wr := [(nb, .inr (3, [.ref nd, .int (iI (((dl X : Nat) : Int))), .int (iI (pt))])), (nd, .inl (cB, 4200, .inl d)), (mo, .inr (4, [.ref nb, .ref un, .ref ov, .ref xx, .ref dc, .int (iI (zl)), .int (iI (0)), .long (ma), .int (iI (pw)), .int (iI (zk))]))]) (va_runV (C := "ExactDigitsModel$Decimal") (As := []) (rest := []) ⟨hx, hb, hml, hown, hts⟩ (c_De_twice l D cB cI cJ t5 ad dc dw fq tq h T hde (by omega) H.size) (cwV 0 hts (gV tw_570 tw_571 tw_572 tw_5 tw_573) rfl rfl rfl (by decide +kernel) ⟨Nat.le_of_ble_eq_true rfl, Nat.le_of_ble_eq_true rfl⟩) ⟨c_blind (eX_X t5 ad), va_recv (ci := 2) (q0 := 3) hK hP rfl rfl, fun U hU hW => c_pre (wc := [(dc, .inr (2, [.ref dw, .int (iI ((fq : Int))), .int (iI ((tq : Int)))])), (dw, .inl (cI, 465, .inl h))]) (eX_X t5 ad) hE hK hP hD hS hA [3, 4] rfl (by decide) U hU hW⟩ rfl rfl hl.1 rfl (lv_room (Nat.le_of_ble_eq_true rfl)) d_Mo_nearest_228 ⟨Nat.le_of_ble_eq_true rfl, Nat.le_of_ble_eq_true rfl⟩) hP hD hS hA [3, 4] [0, 1, 2] rfl rfl (by decide) (by decide) (fun u H locs hp hP hD hS => ?_)
        obtain ⟨f3, fr3, to3, hde3, rfl⟩ := hp
        have hP : va_P D ecl [(nb, .inr (3, [.ref nd, .int (iI (((dl X : Nat) : Int))), .int (iI (pt))])), (nd, .inl (cB, 4200, .inl d)), (mo, .inr (4, [.ref nb, .ref un, .ref ov, .ref xx, .ref dc, .int (iI (zl)), .int (iI (0)), .long (ma), .int (iI (pw)), .int (iI (zk))])), (dc, .inr (2, [.ref dw, .int (iI ((fr3 : Int))), .int (iI ((to3 : Int)))])), (dw, .inl (cI, 465, .inl f3))] H := hP
        have hD : va_D A [(nb, .inr (3, [.ref nd, .int (iI (((dl X : Nat) : Int))), .int (iI (pt))])), (nd, .inl (cB, 4200, .inl d)), (mo, .inr (4, [.ref nb, .ref un, .ref ov, .ref xx, .ref dc, .int (iI (zl)), .int (iI (0)), .long (ma), .int (iI (pw)), .int (iI (zk))])), (dc, .inr (2, [.ref dw, .int (iI ((fr3 : Int))), .int (iI ((to3 : Int)))])), (dw, .inl (cI, 465, .inl f3))] := hD
        have hP := hP.sub (ws' := [(mo, .inr (4, [.ref nb, .ref un, .ref ov, .ref xx, .ref dc, .int (iI (zl)), .int (iI (0)), .long (ma), .int (iI (pw)), .int (iI (zk))])), (nb, .inr (3, [.ref nd, .int (iI (((dl X : Nat) : Int))), .int (iI (pt))])), (nd, .inl (cB, 4200, .inl d)), (dc, .inr (2, [.ref dw, .int (iI ((fr3 : Int))), .int (iI ((to3 : Int)))])), (dw, .inl (cI, 465, .inl f3))]) [2, 0, 1, 3, 4] rfl
        have hD := hD.sub (ws' := [(mo, .inr (4, [.ref nb, .ref un, .ref ov, .ref xx, .ref dc, .int (iI (zl)), .int (iI (0)), .long (ma), .int (iI (pw)), .int (iI (zk))])), (nb, .inr (3, [.ref nd, .int (iI (((dl X : Nat) : Int))), .int (iI (pt))])), (nd, .inl (cB, 4200, .inl d)), (dc, .inr (2, [.ref dw, .int (iI ((fr3 : Int))), .int (iI ((to3 : Int)))])), (dw, .inl (cI, 465, .inl f3))]) [2, 0, 1, 3, 4] (by decide) rfl
        refine lv_iinc (k := 5) (v := iI (z7 + (-1))) hx hb d_Mo_nearest_231 hl rfl (iI_add _ _) (by decide) rfl (fun ls hl => ?_)
        have hl : lv_has ls 12 [(7, .int (iI (z7 + (-1)))), (0, .ref mo), (2, .long (jI (((ifz kf : Nat) : Int)))), (4, .int (iI (((fbz kf + 1 : Nat) : Int)))), (5, .int (iI (lez kf))), (6, .int (iI (lez kf + ((jz kf : Nat) : Int) - 1)))] := hl
        refine lv_goto (tgt := 208) hx hb d_Mo_nearest_234 rfl ?_
        have hl := lv_sub hl [1, 2, 3, 4, 5, 0] rfl
        exact ih _ (by omega) (2 * T) (f3) (fr3) (to3) _ ls H locs rfl (hde3) (rel_t hrel) (hq2.2) (by omega) (fr_43 hde3.2.2.1 hq2.1 (by omega)) (hptb) hl hP hD hS
  have L174 : ∀ (n9 : Nat) (T : Nat) (e9 : Nat) (h : Nat → Int32) (fq : Nat) (tq : Nat) (z7 : Int) (ls : Array Slot) (H : Heap) (locs : List Loc), T = n9 → (z7 = (e9 : Int)) → (de_ok h fq tq T) → (T * 2 ^ e9 = T0) → (e9 ≤ 1341) → (-400 ≤ pt ∧ pt ≤ 400) → lv_has ls 12 [(0, .ref mo), (2, .long (jI (((ifz kf : Nat) : Int)))), (4, .int (iI (((fbz kf + 1 : Nat) : Int)))), (5, .int (iI (lez kf))), (6, .int (iI (lez kf + ((jz kf : Nat) : Int) - 1))), (7, .int (iI (z7)))] → va_P D ecl [(mo, .inr (4, [.ref nb, .ref un, .ref ov, .ref xx, .ref dc, .int (iI (zl)), .int (iI (0)), .long (ma), .int (iI (pw)), .int (iI (zk))])), (nb, .inr (3, [.ref nd, .int (iI (((dl X : Nat) : Int))), .int (iI (pt))])), (nd, .inl (cB, 4200, .inl d)), (dc, .inr (2, [.ref dw, .int (iI ((fq : Int))), .int (iI ((tq : Int)))])), (dw, .inl (cI, 465, .inl h))] H → va_D A [(mo, .inr (4, [.ref nb, .ref un, .ref ov, .ref xx, .ref dc, .int (iI (zl)), .int (iI (0)), .long (ma), .int (iI (pw)), .int (iI (zk))])), (nb, .inr (3, [.ref nd, .int (iI (((dl X : Nat) : Int))), .int (iI (pt))])), (nd, .inl (cB, 4200, .inl d)), (dc, .inr (2, [.ref dw, .int (iI ((fq : Int))), .int (iI ((tq : Int)))])), (dw, .inl (cI, 465, .inl h))] → va_S A s.heap H locs → W p l e (headSpec (Cond.code m_Mo_nearest b_Mo_nearest 12 (some .long) :: gw) (rm_ 3 63)).room s m ([.ref mo, .int (iI (zz))] : List Value).toArray below meth c H locs 0 0 (MQ below (va_Ql (fun r u => (∃ rn : Nat, r = jI (rn : Int) ∧ NR (fbz kf + 1) (ifz kf) (nP X (pt - ((dl X : Nat) : Int)) kf) (nM (pt - ((dl X : Nat) : Int))) (zl = 1) rn) ∧ ∃ (f' : Nat → Int32) (fr' to' : Nat), dz_ok f' fr' to' ∧ u = [(mo, .inr (4, [.ref nb, .ref un, .ref ov, .ref xx, .ref dc, .int (iI (zl)), .int (iI (0)), .long (ma), .int (iI (pw)), .int (iI (zk))])), (nb, .inr (3, [.ref nd, .int (iI (((dl X : Nat) : Int))), .int (iI (pt))])), (nd, .inl (cB, 4200, .inl d)), (dc, .inr (2, [.ref dw, .int (iI ((fr' : Int))), .int (iI ((to' : Int)))])), (dw, .inl (cI, 465, .inl f'))]) (c_B D ecl A) A) ([.ref mo, .int (iI (zz))] : List Value).toArray s 0 0 A) (F0 m 174 ls []) := by
    intro n9
    induction n9 using Nat.strongRecOn with
    | ind n9 ih =>
    intro T e9 h fq tq z7 ls H locs hn9 hz7 hde hrel heb hptb hl hP hD hS
    refine lv_aload_n hx hb d_Mo_nearest_174 rfl (lv_at hl 0 rfl) ?_
    refine va_get (D := D) (ci := 4) (v := .ref dc) (C := R_Mo) (T := T_Mo) (N := 10) hx hb hts (fun w h => List.mem_cons_of_mem _ (in_Mo w h)) hown hK hP 0 rfl rfl 4 (by decide) (hts _ (List.mem_cons_of_mem _ tw_394)) (fun _ h9 => h9) rfl d_Mo_nearest_175 ?_
    refine va_get (D := D) (ci := 2) (v := .int (iI ((fq : Int)))) (C := R_De) (T := T_De) (N := 3) hx hb hts (fun w h => List.mem_cons_of_mem _ (in_De w h)) hown hK hP 3 rfl rfl 1 (by decide) (hts _ (List.mem_cons_of_mem _ tw_381)) (fun _ h9 => h9) rfl d_Mo_nearest_178 ?_
    have hfqb := hde.1
    have htqb := hde.2.1
    refine lv_bipush (v := iI 43) hx hb d_Mo_nearest_181 (by decide +kernel) ?_
    refine ed_icmp_lt (tgt := 195) hx hb d_Mo_nearest_183 rfl (by omega) (by omega) (fun h_36 => ?_) (fun h_36 => ?_)
    · skip
      refine ed_pc (pc' := 195) rfl ?_
      have hWT : W42 ≤ T := W_le hde.2.2.1 (by omega)
      have he13 := e_bnd hrel hWT (by rw [hT0]; exact t0_lt (by omega)) (by omega)
      have hTe : T % 2 = 0 := ev_T hde.2.2.2.2.1 hde.2.1
      have hTp : 0 < T := Nat.lt_of_lt_of_le W42_pos hWT
      have hev : tq = 400 → T / 1000000000 ^ 65 % 2 = 0 := fun z => ev_65 hrel hT0 (by omega) (by have q := hde.2.2.2.2.1; rw [z] at q; exact q)
      refine lv_aload_n hx hb d_Mo_nearest_195 rfl (lv_at hl 0 rfl) ?_
      refine va_get (D := D) (ci := 4) (v := .ref dc) (C := R_Mo) (T := T_Mo) (N := 10) hx hb hts (fun w h => List.mem_cons_of_mem _ (in_Mo w h)) hown hK hP 0 rfl rfl 4 (by decide) (hts _ (List.mem_cons_of_mem _ tw_394)) (fun _ h9 => h9) rfl d_Mo_nearest_196 ?_
      refine ed_pc (pc' := 199) rfl ?_
      refine c_fv (wc := [(dc, .inr (2, [.ref dw, .int (iI ((fq : Int))), .int (iI ((tq : Int)))])), (dw, .inl (cI, 465, .inl h))]) (wr := [(mo, .inr (4, [.ref nb, .ref un, .ref ov, .ref xx, .ref dc, .int (iI (zl)), .int (iI (0)), .long (ma), .int (iI (pw)), .int (iI (zk))])), (nb, .inr (3, [.ref nd, .int (iI (((dl X : Nat) : Int))), .int (iI (pt))])), (nd, .inl (cB, 4200, .inl d))]) (va_runV (C := "ExactDigitsModel$Decimal") (As := []) (rest := []) ⟨hx, hb, hml, hown, hts⟩ (c_De_half l D cB cI cJ t5 ad dc dw fq tq h T hde hev H.size) (cwV 0 hts (gV tw_563 tw_564 tw_565 tw_5 tw_566) rfl rfl rfl (by decide +kernel) ⟨Nat.le_of_ble_eq_true rfl, Nat.le_of_ble_eq_true rfl⟩) ⟨c_blind (eX_X t5 ad), va_recv (ci := 2) (q0 := 3) hK hP rfl rfl, fun U hU hW => c_pre (wc := [(dc, .inr (2, [.ref dw, .int (iI ((fq : Int))), .int (iI ((tq : Int)))])), (dw, .inl (cI, 465, .inl h))]) (eX_X t5 ad) hE hK hP hD hS hA [3, 4] rfl (by decide) U hU hW⟩ rfl rfl hl.1 rfl (lv_room (Nat.le_of_ble_eq_true rfl)) d_Mo_nearest_199 ⟨Nat.le_of_ble_eq_true rfl, Nat.le_of_ble_eq_true rfl⟩) hP hD hS hA [3, 4] [0, 1, 2] rfl rfl (by decide) (by decide) (fun u H locs hp hP hD hS => ?_)
      obtain ⟨f3, fr3, to3, hde3, rfl⟩ := hp
      have hP : va_P D ecl [(mo, .inr (4, [.ref nb, .ref un, .ref ov, .ref xx, .ref dc, .int (iI (zl)), .int (iI (0)), .long (ma), .int (iI (pw)), .int (iI (zk))])), (nb, .inr (3, [.ref nd, .int (iI (((dl X : Nat) : Int))), .int (iI (pt))])), (nd, .inl (cB, 4200, .inl d)), (dc, .inr (2, [.ref dw, .int (iI ((fr3 : Int))), .int (iI ((to3 : Int)))])), (dw, .inl (cI, 465, .inl f3))] H := hP
      have hD : va_D A [(mo, .inr (4, [.ref nb, .ref un, .ref ov, .ref xx, .ref dc, .int (iI (zl)), .int (iI (0)), .long (ma), .int (iI (pw)), .int (iI (zk))])), (nb, .inr (3, [.ref nd, .int (iI (((dl X : Nat) : Int))), .int (iI (pt))])), (nd, .inl (cB, 4200, .inl d)), (dc, .inr (2, [.ref dw, .int (iI ((fr3 : Int))), .int (iI ((to3 : Int)))])), (dw, .inl (cI, 465, .inl f3))] := hD
      have hP := hP.sub (ws' := [(mo, .inr (4, [.ref nb, .ref un, .ref ov, .ref xx, .ref dc, .int (iI (zl)), .int (iI (0)), .long (ma), .int (iI (pw)), .int (iI (zk))])), (nb, .inr (3, [.ref nd, .int (iI (((dl X : Nat) : Int))), .int (iI (pt))])), (nd, .inl (cB, 4200, .inl d)), (dc, .inr (2, [.ref dw, .int (iI ((fr3 : Int))), .int (iI ((to3 : Int)))])), (dw, .inl (cI, 465, .inl f3))]) [0, 1, 2, 3, 4] rfl
      have hD := hD.sub (ws' := [(mo, .inr (4, [.ref nb, .ref un, .ref ov, .ref xx, .ref dc, .int (iI (zl)), .int (iI (0)), .long (ma), .int (iI (pw)), .int (iI (zk))])), (nb, .inr (3, [.ref nd, .int (iI (((dl X : Nat) : Int))), .int (iI (pt))])), (nd, .inl (cB, 4200, .inl d)), (dc, .inr (2, [.ref dw, .int (iI ((fr3 : Int))), .int (iI ((to3 : Int)))])), (dw, .inl (cI, 465, .inl f3))]) [0, 1, 2, 3, 4] (by decide) rfl
      refine lv_iinc (k := 5) (v := iI (z7 + 1)) hx hb d_Mo_nearest_202 hl rfl (iI_add _ _) (by decide) rfl (fun ls hl => ?_)
      have hl : lv_has ls 12 [(7, .int (iI (z7 + 1))), (0, .ref mo), (2, .long (jI (((ifz kf : Nat) : Int)))), (4, .int (iI (((fbz kf + 1 : Nat) : Int)))), (5, .int (iI (lez kf))), (6, .int (iI (lez kf + ((jz kf : Nat) : Int) - 1)))] := hl
      refine lv_goto (tgt := 174) hx hb d_Mo_nearest_205 rfl ?_
      have hl := lv_sub hl [1, 2, 3, 4, 5, 0] rfl
      exact ih _ (by omega) (T / 2) (e9 + 1) (f3) (fr3) (to3) _ ls H locs rfl (by omega) (hde3) (hf_e hTe hrel) (by omega) (hptb) hl hP hD hS
    · skip
      refine ed_pc (pc' := 186) rfl ?_
      refine lv_aload_n hx hb d_Mo_nearest_186 rfl (lv_at hl 0 rfl) ?_
      have hfr : 43 ≤ fq := by omega
      refine c_fi (wc := [(mo, .inr (4, [.ref nb, .ref un, .ref ov, .ref xx, .ref dc, .int (iI (zl)), .int (iI (0)), .long (ma), .int (iI (pw)), .int (iI (zk))])), (dc, .inr (2, [.ref dw, .int (iI ((fq : Int))), .int (iI ((tq : Int)))])), (dw, .inl (cI, 465, .inl h))]) (wr := [(nb, .inr (3, [.ref nd, .int (iI (((dl X : Nat) : Int))), .int (iI (pt))])), (nd, .inl (cB, 4200, .inl d))]) (va_runV (C := "ExactDigitsModel") (As := []) (rest := []) ⟨hx, hb, hml, hown, hts⟩ (c_Mo_bits l D cB cI cJ t5 ad mo nb un ov xx dc dw fq tq h zl 0 pw zk ma T hde hfr H.size) (cwV 0 hts (gV tw_547 tw_549 ts_20 tw_3 tw_550) rfl rfl rfl (by decide +kernel) ⟨Nat.le_of_ble_eq_true rfl, Nat.le_of_ble_eq_true rfl⟩) ⟨c_blind (eX_X t5 ad), va_recv (ci := 4) (q0 := 0) hK hP rfl rfl, fun U hU hW => c_pre (wc := [(mo, .inr (4, [.ref nb, .ref un, .ref ov, .ref xx, .ref dc, .int (iI (zl)), .int (iI (0)), .long (ma), .int (iI (pw)), .int (iI (zk))])), (dc, .inr (2, [.ref dw, .int (iI ((fq : Int))), .int (iI ((tq : Int)))])), (dw, .inl (cI, 465, .inl h))]) (eX_X t5 ad) hE hK hP hD hS hA [0, 3, 4] rfl (by decide) U hU hW⟩ rfl rfl hl.1 rfl (lv_room (Nat.le_of_ble_eq_true rfl)) d_Mo_nearest_187 ⟨Nat.le_of_ble_eq_true rfl, Nat.le_of_ble_eq_true rfl⟩) hP hD hS hA [0, 3, 4] [1, 2] rfl rfl (by decide) (by decide) (fun r u H locs hp hP hD hS => ?_)
      obtain ⟨rfl, rfl⟩ := hp
      have hP : va_P D ecl [(nb, .inr (3, [.ref nd, .int (iI (((dl X : Nat) : Int))), .int (iI (pt))])), (nd, .inl (cB, 4200, .inl d)), (mo, .inr (4, [.ref nb, .ref un, .ref ov, .ref xx, .ref dc, .int (iI (zl)), .int (iI (0)), .long (ma), .int (iI (pw)), .int (iI (zk))])), (dc, .inr (2, [.ref dw, .int (iI ((fq : Int))), .int (iI ((tq : Int)))])), (dw, .inl (cI, 465, .inl h))] H := hP
      have hD : va_D A [(nb, .inr (3, [.ref nd, .int (iI (((dl X : Nat) : Int))), .int (iI (pt))])), (nd, .inl (cB, 4200, .inl d)), (mo, .inr (4, [.ref nb, .ref un, .ref ov, .ref xx, .ref dc, .int (iI (zl)), .int (iI (0)), .long (ma), .int (iI (pw)), .int (iI (zk))])), (dc, .inr (2, [.ref dw, .int (iI ((fq : Int))), .int (iI ((tq : Int)))])), (dw, .inl (cI, 465, .inl h))] := hD
      obtain ⟨bq, hbq⟩ : ∃ bq : Nat, bq = bl (T / W42) := ⟨_, rfl⟩
      have hbqb : bq ≤ 64 := by rw [hbq]; exact Nat.le_trans (bl_bound (show T / W42 < 2 ^ 62 by have := (on_w hde hfr).2; omega)) (by decide)
      refine ed_tz (y := (bq : Int)) (by rw [hbq]) ?_
      refine ed_pc (pc' := 190) rfl ?_
      refine lv_iload hx hb d_Mo_nearest_190 (lv_at hl 2 rfl) ?_
      refine ed_icmp_le (tgt := 208) hx hb d_Mo_nearest_192 rfl (by omega) (by omega) (fun h_37 => ?_) (fun h_37 => ?_)
      · skip
        refine ed_pc (pc' := 208) rfl ?_
        have hP := hP.sub (ws' := [(mo, .inr (4, [.ref nb, .ref un, .ref ov, .ref xx, .ref dc, .int (iI (zl)), .int (iI (0)), .long (ma), .int (iI (pw)), .int (iI (zk))])), (nb, .inr (3, [.ref nd, .int (iI (((dl X : Nat) : Int))), .int (iI (pt))])), (nd, .inl (cB, 4200, .inl d)), (dc, .inr (2, [.ref dw, .int (iI ((fq : Int))), .int (iI ((tq : Int)))])), (dw, .inl (cI, 465, .inl h))]) [2, 0, 1, 3, 4] rfl
        have hD := hD.sub (ws' := [(mo, .inr (4, [.ref nb, .ref un, .ref ov, .ref xx, .ref dc, .int (iI (zl)), .int (iI (0)), .long (ma), .int (iI (pw)), .int (iI (zk))])), (nb, .inr (3, [.ref nd, .int (iI (((dl X : Nat) : Int))), .int (iI (pt))])), (nd, .inl (cB, 4200, .inl d)), (dc, .inr (2, [.ref dw, .int (iI ((fq : Int))), .int (iI ((tq : Int)))])), (dw, .inl (cI, 465, .inl h))]) [2, 0, 1, 3, 4] (by decide) rfl
        have hl := lv_sub hl [0, 1, 2, 3, 4, 5] rfl
        exact L208 _ (T) (h) (fq) (tq) _ ls H locs rfl (hde) (rel_0 hz7 hrel) (bl_iff.mp (by omega)) (by omega) (hfr) (hptb) hl hP hD hS
      · skip
        refine ed_pc (pc' := 195) rfl ?_
        have hWT : W42 ≤ T := q_W (a := fbz kf + 1) (by omega)
        have he13 := e_bnd hrel hWT (by rw [hT0]; exact t0_lt (by omega)) (by omega)
        have hTe : T % 2 = 0 := ev_T hde.2.2.2.2.1 hde.2.1
        have hTp : 0 < T := Nat.lt_of_lt_of_le W42_pos hWT
        have hev : tq = 400 → T / 1000000000 ^ 65 % 2 = 0 := fun z => ev_65 hrel hT0 (by omega) (by have q := hde.2.2.2.2.1; rw [z] at q; exact q)
        refine lv_aload_n hx hb d_Mo_nearest_195 rfl (lv_at hl 0 rfl) ?_
        refine va_get (D := D) (ci := 4) (v := .ref dc) (C := R_Mo) (T := T_Mo) (N := 10) hx hb hts (fun w h => List.mem_cons_of_mem _ (in_Mo w h)) hown hK hP 2 rfl rfl 4 (by decide) (hts _ (List.mem_cons_of_mem _ tw_394)) (fun _ h9 => h9) rfl d_Mo_nearest_196 ?_
        refine c_fv (wc := [(dc, .inr (2, [.ref dw, .int (iI ((fq : Int))), .int (iI ((tq : Int)))])), (dw, .inl (cI, 465, .inl h))]) (wr := [(nb, .inr (3, [.ref nd, .int (iI (((dl X : Nat) : Int))), .int (iI (pt))])), (nd, .inl (cB, 4200, .inl d)), (mo, .inr (4, [.ref nb, .ref un, .ref ov, .ref xx, .ref dc, .int (iI (zl)), .int (iI (0)), .long (ma), .int (iI (pw)), .int (iI (zk))]))]) (va_runV (C := "ExactDigitsModel$Decimal") (As := []) (rest := []) ⟨hx, hb, hml, hown, hts⟩ (c_De_half l D cB cI cJ t5 ad dc dw fq tq h T hde hev H.size) (cwV 0 hts (gV tw_563 tw_564 tw_565 tw_5 tw_566) rfl rfl rfl (by decide +kernel) ⟨Nat.le_of_ble_eq_true rfl, Nat.le_of_ble_eq_true rfl⟩) ⟨c_blind (eX_X t5 ad), va_recv (ci := 2) (q0 := 3) hK hP rfl rfl, fun U hU hW => c_pre (wc := [(dc, .inr (2, [.ref dw, .int (iI ((fq : Int))), .int (iI ((tq : Int)))])), (dw, .inl (cI, 465, .inl h))]) (eX_X t5 ad) hE hK hP hD hS hA [3, 4] rfl (by decide) U hU hW⟩ rfl rfl hl.1 rfl (lv_room (Nat.le_of_ble_eq_true rfl)) d_Mo_nearest_199 ⟨Nat.le_of_ble_eq_true rfl, Nat.le_of_ble_eq_true rfl⟩) hP hD hS hA [3, 4] [0, 1, 2] rfl rfl (by decide) (by decide) (fun u H locs hp hP hD hS => ?_)
        obtain ⟨f3, fr3, to3, hde3, rfl⟩ := hp
        have hP : va_P D ecl [(nb, .inr (3, [.ref nd, .int (iI (((dl X : Nat) : Int))), .int (iI (pt))])), (nd, .inl (cB, 4200, .inl d)), (mo, .inr (4, [.ref nb, .ref un, .ref ov, .ref xx, .ref dc, .int (iI (zl)), .int (iI (0)), .long (ma), .int (iI (pw)), .int (iI (zk))])), (dc, .inr (2, [.ref dw, .int (iI ((fr3 : Int))), .int (iI ((to3 : Int)))])), (dw, .inl (cI, 465, .inl f3))] H := hP
        have hD : va_D A [(nb, .inr (3, [.ref nd, .int (iI (((dl X : Nat) : Int))), .int (iI (pt))])), (nd, .inl (cB, 4200, .inl d)), (mo, .inr (4, [.ref nb, .ref un, .ref ov, .ref xx, .ref dc, .int (iI (zl)), .int (iI (0)), .long (ma), .int (iI (pw)), .int (iI (zk))])), (dc, .inr (2, [.ref dw, .int (iI ((fr3 : Int))), .int (iI ((to3 : Int)))])), (dw, .inl (cI, 465, .inl f3))] := hD
        have hP := hP.sub (ws' := [(mo, .inr (4, [.ref nb, .ref un, .ref ov, .ref xx, .ref dc, .int (iI (zl)), .int (iI (0)), .long (ma), .int (iI (pw)), .int (iI (zk))])), (nb, .inr (3, [.ref nd, .int (iI (((dl X : Nat) : Int))), .int (iI (pt))])), (nd, .inl (cB, 4200, .inl d)), (dc, .inr (2, [.ref dw, .int (iI ((fr3 : Int))), .int (iI ((to3 : Int)))])), (dw, .inl (cI, 465, .inl f3))]) [2, 0, 1, 3, 4] rfl
        have hD := hD.sub (ws' := [(mo, .inr (4, [.ref nb, .ref un, .ref ov, .ref xx, .ref dc, .int (iI (zl)), .int (iI (0)), .long (ma), .int (iI (pw)), .int (iI (zk))])), (nb, .inr (3, [.ref nd, .int (iI (((dl X : Nat) : Int))), .int (iI (pt))])), (nd, .inl (cB, 4200, .inl d)), (dc, .inr (2, [.ref dw, .int (iI ((fr3 : Int))), .int (iI ((to3 : Int)))])), (dw, .inl (cI, 465, .inl f3))]) [2, 0, 1, 3, 4] (by decide) rfl
        refine lv_iinc (k := 5) (v := iI (z7 + 1)) hx hb d_Mo_nearest_202 hl rfl (iI_add _ _) (by decide) rfl (fun ls hl => ?_)
        have hl : lv_has ls 12 [(7, .int (iI (z7 + 1))), (0, .ref mo), (2, .long (jI (((ifz kf : Nat) : Int)))), (4, .int (iI (((fbz kf + 1 : Nat) : Int)))), (5, .int (iI (lez kf))), (6, .int (iI (lez kf + ((jz kf : Nat) : Int) - 1)))] := hl
        refine lv_goto (tgt := 174) hx hb d_Mo_nearest_205 rfl ?_
        have hl := lv_sub hl [1, 2, 3, 4, 5, 0] rfl
        exact ih _ (by omega) (T / 2) (e9 + 1) (f3) (fr3) (to3) _ ls H locs rfl (by omega) (hde3) (hf_e hTe hrel) (by omega) (hptb) hl hP hD hS
  have L69 : ∀ (n9 : Nat) (T : Nat) (j : Nat) (h : Nat → Int32) (fq : Nat) (tq : Nat) (zk9 : Int) (ls : Array Slot) (H : Heap) (locs : List Loc), dl X - j = n9 → (zk9 = (j : Int)) → (j ≤ dl X) → (T = X / 10 ^ (dl X - j) * 10 ^ (cz - j)) → ((T = 0 ∧ fq = 45 ∧ tq = 45 ∧ ∀ k, k < 465 → h k = iI 0) ∨ (0 < T ∧ de_ok h fq tq T)) → (-400 ≤ pt ∧ pt ≤ 400) → (0 < X) → lv_has ls 12 [(0, .ref mo), (1, .int (iI (zz))), (2, .long (jI (((ifz kf : Nat) : Int)))), (4, .int (iI (zk9)))] → va_P D ecl [(mo, .inr (4, [.ref nb, .ref un, .ref ov, .ref xx, .ref dc, .int (iI (zl)), .int (iI (0)), .long (ma), .int (iI (pw)), .int (iI (zk))])), (nb, .inr (3, [.ref nd, .int (iI (((dl X : Nat) : Int))), .int (iI (pt))])), (nd, .inl (cB, 4200, .inl d)), (dc, .inr (2, [.ref dw, .int (iI ((fq : Int))), .int (iI ((tq : Int)))])), (dw, .inl (cI, 465, .inl h))] H → va_D A [(mo, .inr (4, [.ref nb, .ref un, .ref ov, .ref xx, .ref dc, .int (iI (zl)), .int (iI (0)), .long (ma), .int (iI (pw)), .int (iI (zk))])), (nb, .inr (3, [.ref nd, .int (iI (((dl X : Nat) : Int))), .int (iI (pt))])), (nd, .inl (cB, 4200, .inl d)), (dc, .inr (2, [.ref dw, .int (iI ((fq : Int))), .int (iI ((tq : Int)))])), (dw, .inl (cI, 465, .inl h))] → va_S A s.heap H locs → W p l e (headSpec (Cond.code m_Mo_nearest b_Mo_nearest 12 (some .long) :: gw) (rm_ 3 63)).room s m ([.ref mo, .int (iI (zz))] : List Value).toArray below meth c H locs 0 0 (MQ below (va_Ql (fun r u => (∃ rn : Nat, r = jI (rn : Int) ∧ NR (fbz kf + 1) (ifz kf) (nP X (pt - ((dl X : Nat) : Int)) kf) (nM (pt - ((dl X : Nat) : Int))) (zl = 1) rn) ∧ ∃ (f' : Nat → Int32) (fr' to' : Nat), dz_ok f' fr' to' ∧ u = [(mo, .inr (4, [.ref nb, .ref un, .ref ov, .ref xx, .ref dc, .int (iI (zl)), .int (iI (0)), .long (ma), .int (iI (pw)), .int (iI (zk))])), (nb, .inr (3, [.ref nd, .int (iI (((dl X : Nat) : Int))), .int (iI (pt))])), (nd, .inl (cB, 4200, .inl d)), (dc, .inr (2, [.ref dw, .int (iI ((fr' : Int))), .int (iI ((to' : Int)))])), (dw, .inl (cI, 465, .inl f'))]) (c_B D ecl A) A) ([.ref mo, .int (iI (zz))] : List Value).toArray s 0 0 A) (F0 m 69 ls []) := by
    intro n9
    induction n9 using Nat.strongRecOn with
    | ind n9 ih =>
    intro T j h fq tq zk9 ls H locs hn9 hzk hj hT hst hptb hX0 hl hP hD hS
    refine lv_iload hx hb d_Mo_nearest_69 (lv_at hl 3 rfl) ?_
    refine lv_aload_n hx hb d_Mo_nearest_71 rfl (lv_at hl 0 rfl) ?_
    refine va_get (D := D) (ci := 4) (v := .ref nb) (C := R_Mo) (T := T_Mo) (N := 10) hx hb hts (fun w h => List.mem_cons_of_mem _ (in_Mo w h)) hown hK hP 0 rfl rfl 0 (by decide) (hts _ (List.mem_cons_of_mem _ tw_390)) (fun _ h9 => h9) rfl d_Mo_nearest_72 ?_
    refine va_get (D := D) (ci := 3) (v := .int (iI (((dl X : Nat) : Int)))) (C := R_Ro) (T := T_Ro) (N := 3) hx hb hts (fun w h => List.mem_cons_of_mem _ (in_Ro w h)) hown hK hP 1 rfl rfl 1 (by decide) (hts _ (List.mem_cons_of_mem _ tw_362)) (fun _ h9 => h9) rfl d_Mo_nearest_75 ?_
    refine ed_icmp_ge (tgt := 129) hx hb d_Mo_nearest_78 rfl (by omega) (by omega) (fun h_38 => ?_) (fun h_38 => ?_)
    · skip
      refine ed_pc (pc' := 129) rfl ?_
      have hje : j = dl X := by omega
      have hTT : T = T0 := by rw [hT, hT0, hje, Nat.sub_self, Nat.pow_zero, Nat.div_one]
      have hTp : 0 < T := by rw [hTT, hT0]; exact Nat.mul_pos hX0 (p10_pos _)
      have hde : de_ok h fq tq T := by rcases hst with ⟨z, -⟩ | ⟨-, z⟩; omega; exact z
      refine lv_iload_n hx hb d_Mo_nearest_129 rfl (lv_at hl 1 rfl) ?_
      refine ed_if_eq (tgt := 138) hx hb d_Mo_nearest_130 rfl (by omega) (fun h_39 => ?_) (fun h_39 => ?_)
      · skip
        refine ed_pc (pc' := 138) rfl ?_
        have hk01 : kf = 0 := by rw [hkf9]; simp only [if_pos (show zz = 0 by omega)]
        have hfb : fbz kf = 52 := by rw [hk01]; rfl
        have hle : lez kf = -1074 := by rw [hk01]; rfl
        have hjz : jz kf = 2046 := by rw [hk01]; rfl
        refine ed_pc (pc' := 138) rfl ?_
        refine lv_bipush (v := iI 53) hx hb d_Mo_nearest_138 (by decide +kernel) ?_
        refine ed_tz (y := ((fbz kf + 1 : Nat) : Int)) (by omega) ?_
        refine lv_istore hx hb d_Mo_nearest_140 hl (by decide) rfl (fun ls hl => ?_)
        have hl : lv_has ls 12 [(4, .int (iI (((fbz kf + 1 : Nat) : Int)))), (0, .ref mo), (1, .int (iI (zz))), (2, .long (jI (((ifz kf : Nat) : Int))))] := hl
        refine lv_iload_n hx hb d_Mo_nearest_142 rfl (lv_at hl 2 rfl) ?_
        refine ed_if_eq (tgt := 152) hx hb d_Mo_nearest_143 rfl (by omega) (fun h_40 => ?_) (fun h_40 => ?_)
        · skip
          refine ed_pc (pc' := 152) rfl ?_
          refine lv_sipush (v := iI (-1074)) hx hb d_Mo_nearest_152 (by decide +kernel) ?_
          refine ed_tz (y := lez kf) (by omega) ?_
          refine lv_istore hx hb d_Mo_nearest_155 hl (by decide) rfl (fun ls hl => ?_)
          have hl : lv_has ls 12 [(5, .int (iI (lez kf))), (4, .int (iI (((fbz kf + 1 : Nat) : Int)))), (0, .ref mo), (1, .int (iI (zz))), (2, .long (jI (((ifz kf : Nat) : Int))))] := hl
          refine lv_iload_n hx hb d_Mo_nearest_157 rfl (lv_at hl 3 rfl) ?_
          refine ed_if_eq (tgt := 166) hx hb d_Mo_nearest_158 rfl (by omega) (fun h_41 => ?_) (fun h_41 => ?_)
          · skip
            refine ed_pc (pc' := 166) rfl ?_
            refine ed_pc (pc' := 166) rfl ?_
            refine lv_sipush (v := iI 971) hx hb d_Mo_nearest_166 (by decide +kernel) ?_
            refine ed_tz (y := lez kf + ((jz kf : Nat) : Int) - 1) (by omega) ?_
            refine lv_istore hx hb d_Mo_nearest_169 hl (by decide) rfl (fun ls hl => ?_)
            have hl : lv_has ls 12 [(6, .int (iI (lez kf + ((jz kf : Nat) : Int) - 1))), (5, .int (iI (lez kf))), (4, .int (iI (((fbz kf + 1 : Nat) : Int)))), (0, .ref mo), (1, .int (iI (zz))), (2, .long (jI (((ifz kf : Nat) : Int))))] := hl
            refine lv_iconst (v := iI 0) hx hb d_Mo_nearest_171 rfl ?_
            refine lv_istore hx hb d_Mo_nearest_172 hl (by decide) rfl (fun ls hl => ?_)
            have hl : lv_has ls 12 [(7, .int (iI (0))), (6, .int (iI (lez kf + ((jz kf : Nat) : Int) - 1))), (5, .int (iI (lez kf))), (4, .int (iI (((fbz kf + 1 : Nat) : Int)))), (0, .ref mo), (1, .int (iI (zz))), (2, .long (jI (((ifz kf : Nat) : Int))))] := hl
            have hl := lv_sub hl [4, 6, 3, 2, 1, 0] rfl
            exact L174 _ (T) (0) (h) (fq) (tq) _ ls H locs rfl (rfl) (hde) (by rw [Nat.pow_zero, Nat.mul_one, hTT]) (by omega) (hptb) hl hP hD hS
          · exact absurd h_41 (by omega)
        · exact absurd h_40 (by omega)
      · skip
        refine ed_pc (pc' := 133) rfl ?_
        have hk01 : kf = 1 := by rw [hkf9]; simp only [if_neg (show ¬ zz = 0 by omega)]
        have hfb : fbz kf = 23 := by rw [hk01]; rfl
        have hle : lez kf = -149 := by rw [hk01]; rfl
        have hjz : jz kf = 254 := by rw [hk01]; rfl
        refine ed_pc (pc' := 133) rfl ?_
        refine lv_bipush (v := iI 24) hx hb d_Mo_nearest_133 (by decide +kernel) ?_
        refine lv_goto (tgt := 140) hx hb d_Mo_nearest_135 rfl ?_
        refine ed_tz (y := ((fbz kf + 1 : Nat) : Int)) (by omega) ?_
        refine lv_istore hx hb d_Mo_nearest_140 hl (by decide) rfl (fun ls hl => ?_)
        have hl : lv_has ls 12 [(4, .int (iI (((fbz kf + 1 : Nat) : Int)))), (0, .ref mo), (1, .int (iI (zz))), (2, .long (jI (((ifz kf : Nat) : Int))))] := hl
        refine lv_iload_n hx hb d_Mo_nearest_142 rfl (lv_at hl 2 rfl) ?_
        refine ed_if_eq (tgt := 152) hx hb d_Mo_nearest_143 rfl (by omega) (fun h_42 => ?_) (fun h_42 => ?_)
        · exact absurd h_42 (by omega)
        · skip
          refine ed_pc (pc' := 146) rfl ?_
          refine lv_sipush (v := iI (-149)) hx hb d_Mo_nearest_146 (by decide +kernel) ?_
          refine lv_goto (tgt := 155) hx hb d_Mo_nearest_149 rfl ?_
          refine ed_tz (y := lez kf) (by omega) ?_
          refine lv_istore hx hb d_Mo_nearest_155 hl (by decide) rfl (fun ls hl => ?_)
          have hl : lv_has ls 12 [(5, .int (iI (lez kf))), (4, .int (iI (((fbz kf + 1 : Nat) : Int)))), (0, .ref mo), (1, .int (iI (zz))), (2, .long (jI (((ifz kf : Nat) : Int))))] := hl
          refine ed_pc (pc' := 157) rfl ?_
          refine lv_iload_n hx hb d_Mo_nearest_157 rfl (lv_at hl 3 rfl) ?_
          refine ed_if_eq (tgt := 166) hx hb d_Mo_nearest_158 rfl (by omega) (fun h_43 => ?_) (fun h_43 => ?_)
          · exact absurd h_43 (by omega)
          · skip
            refine ed_pc (pc' := 161) rfl ?_
            refine lv_bipush (v := iI 104) hx hb d_Mo_nearest_161 (by decide +kernel) ?_
            refine lv_goto (tgt := 169) hx hb d_Mo_nearest_163 rfl ?_
            refine ed_tz (y := lez kf + ((jz kf : Nat) : Int) - 1) (by omega) ?_
            refine lv_istore hx hb d_Mo_nearest_169 hl (by decide) rfl (fun ls hl => ?_)
            have hl : lv_has ls 12 [(6, .int (iI (lez kf + ((jz kf : Nat) : Int) - 1))), (5, .int (iI (lez kf))), (4, .int (iI (((fbz kf + 1 : Nat) : Int)))), (0, .ref mo), (1, .int (iI (zz))), (2, .long (jI (((ifz kf : Nat) : Int))))] := hl
            refine lv_iconst (v := iI 0) hx hb d_Mo_nearest_171 rfl ?_
            refine lv_istore hx hb d_Mo_nearest_172 hl (by decide) rfl (fun ls hl => ?_)
            have hl : lv_has ls 12 [(7, .int (iI (0))), (6, .int (iI (lez kf + ((jz kf : Nat) : Int) - 1))), (5, .int (iI (lez kf))), (4, .int (iI (((fbz kf + 1 : Nat) : Int)))), (0, .ref mo), (1, .int (iI (zz))), (2, .long (jI (((ifz kf : Nat) : Int))))] := hl
            have hl := lv_sub hl [4, 6, 3, 2, 1, 0] rfl
            exact L174 _ (T) (0) (h) (fq) (tq) _ ls H locs rfl (rfl) (hde) (by rw [Nat.pow_zero, Nat.mul_one, hTT]) (by omega) (hptb) hl hP hD hS
    · skip
      refine ed_pc (pc' := 81) rfl ?_
      obtain ⟨dj, hdj⟩ : ∃ dj : Nat, dj = X / 10 ^ (dl X - 1 - j) % 10 := ⟨_, rfl⟩
      have hdj9 : dj < 10 := by rw [hdj]; exact dg_lt _ _
      refine lv_aload_n hx hb d_Mo_nearest_81 rfl (lv_at hl 0 rfl) ?_
      refine va_get (D := D) (ci := 4) (v := .ref nb) (C := R_Mo) (T := T_Mo) (N := 10) hx hb hts (fun w h => List.mem_cons_of_mem _ (in_Mo w h)) hown hK hP 0 rfl rfl 0 (by decide) (hts _ (List.mem_cons_of_mem _ tw_390)) (fun _ h9 => h9) rfl d_Mo_nearest_82 ?_
      refine ed_pc (pc' := 85) rfl ?_
      refine va_get (D := D) (ci := 3) (v := .ref nd) (C := R_Ro) (T := T_Ro) (N := 3) hx hb hts (fun w h => List.mem_cons_of_mem _ (in_Ro w h)) hown hK hP 1 rfl rfl 0 (by decide) (hts _ (List.mem_cons_of_mem _ tw_360)) (fun _ h9 => h9) rfl d_Mo_nearest_85 ?_
      refine lv_iload hx hb d_Mo_nearest_88 (lv_at hl 3 rfl) ?_
      refine ed_bald (y := (dj : Int)) hx hb hK hP 2 0 rfl rfl (j) (by omega) (by omega) (by decide) (by rw [hdj]; exact hXg j (by omega)) d_Mo_nearest_90 ?_
      refine ed_if_le (tgt := 123) hx hb d_Mo_nearest_91 rfl (by omega) (fun h_44 => ?_) (fun h_44 => ?_)
      · skip
        refine ed_pc (pc' := 123) rfl ?_
        refine lv_iinc (k := 3) (v := iI (zk9 + 1)) hx hb d_Mo_nearest_123 hl rfl (iI_add _ _) (by decide) rfl (fun ls hl => ?_)
        have hl : lv_has ls 12 [(4, .int (iI (zk9 + 1))), (0, .ref mo), (1, .int (iI (zz))), (2, .long (jI (((ifz kf : Nat) : Int))))] := hl
        refine lv_goto (tgt := 69) hx hb d_Mo_nearest_126 rfl ?_
        have hl := lv_sub hl [1, 2, 3, 0] rfl
        exact ih _ (by omega) (T) (j + 1) (h) (fq) (tq) _ ls H locs rfl (by omega) (by omega) (by rw [tj_s (by omega) (by omega) hdj, ← hT, show dj = 0 by omega, Nat.zero_mul, Nat.add_zero]) (hst) (hptb) (hX0) hl hP hD hS
      · skip
        refine ed_pc (pc' := 94) rfl ?_
        refine lv_aload_n hx hb d_Mo_nearest_94 rfl (lv_at hl 0 rfl) ?_
        refine va_get (D := D) (ci := 4) (v := .ref dc) (C := R_Mo) (T := T_Mo) (N := 10) hx hb hts (fun w h => List.mem_cons_of_mem _ (in_Mo w h)) hown hK hP 0 rfl rfl 4 (by decide) (hts _ (List.mem_cons_of_mem _ tw_394)) (fun _ h9 => h9) rfl d_Mo_nearest_95 ?_
        refine lv_aload_n hx hb d_Mo_nearest_98 rfl (lv_at hl 0 rfl) ?_
        refine va_get (D := D) (ci := 4) (v := .ref nb) (C := R_Mo) (T := T_Mo) (N := 10) hx hb hts (fun w h => List.mem_cons_of_mem _ (in_Mo w h)) hown hK hP 0 rfl rfl 0 (by decide) (hts _ (List.mem_cons_of_mem _ tw_390)) (fun _ h9 => h9) rfl d_Mo_nearest_99 ?_
        refine ed_pc (pc' := 102) rfl ?_
        refine va_get (D := D) (ci := 3) (v := .ref nd) (C := R_Ro) (T := T_Ro) (N := 3) hx hb hts (fun w h => List.mem_cons_of_mem _ (in_Ro w h)) hown hK hP 1 rfl rfl 0 (by decide) (hts _ (List.mem_cons_of_mem _ tw_360)) (fun _ h9 => h9) rfl d_Mo_nearest_102 ?_
        refine lv_iload hx hb d_Mo_nearest_105 (lv_at hl 3 rfl) ?_
        refine ed_bald (y := (dj : Int)) hx hb hK hP 2 0 rfl rfl (j) (by omega) (by omega) (by decide) (by rw [hdj]; exact hXg j (by omega)) d_Mo_nearest_107 ?_
        refine lv_aload_n hx hb d_Mo_nearest_108 rfl (lv_at hl 0 rfl) ?_
        refine va_get (D := D) (ci := 4) (v := .ref nb) (C := R_Mo) (T := T_Mo) (N := 10) hx hb hts (fun w h => List.mem_cons_of_mem _ (in_Mo w h)) hown hK hP 0 rfl rfl 0 (by decide) (hts _ (List.mem_cons_of_mem _ tw_390)) (fun _ h9 => h9) rfl d_Mo_nearest_109 ?_
        refine va_get (D := D) (ci := 3) (v := .int (iI (pt))) (C := R_Ro) (T := T_Ro) (N := 3) hx hb hts (fun w h => List.mem_cons_of_mem _ (in_Ro w h)) hown hK hP 1 rfl rfl 2 (by decide) (hts _ (List.mem_cons_of_mem _ tw_364)) (fun _ h9 => h9) rfl d_Mo_nearest_112 ?_
        refine lv_iconst (v := iI 1) hx hb d_Mo_nearest_115 rfl ?_
        refine ed_isub hx hb d_Mo_nearest_116 ?_
        refine ed_pc (pc' := 117) rfl ?_
        refine lv_iload hx hb d_Mo_nearest_117 (lv_at hl 3 rfl) ?_
        refine ed_isub hx hb d_Mo_nearest_119 ?_
        refine c_fv (wc := [(dc, .inr (2, [.ref dw, .int (iI ((fq : Int))), .int (iI ((tq : Int)))])), (dw, .inl (cI, 465, .inl h))]) (wr := [(mo, .inr (4, [.ref nb, .ref un, .ref ov, .ref xx, .ref dc, .int (iI (zl)), .int (iI (0)), .long (ma), .int (iI (pw)), .int (iI (zk))])), (nb, .inr (3, [.ref nd, .int (iI (((dl X : Nat) : Int))), .int (iI (pt))])), (nd, .inl (cB, 4200, .inl d))]) (va_runV (C := "ExactDigitsModel$Decimal") (As := [.int (iI ((dj : Int))), .int (iI (((pt) - (1)) - (zk9)))]) (rest := []) ⟨hx, hb, hml, hown, hts⟩ (c_De_add l D cB cI cJ t5 ad dc dw fq tq h T dj (cz - 1 - j) (pt - 1 - zk9) (by omega) (by omega) (by omega) (by rw [hT, show cz - 1 - j + 1 = cz - j by omega]; exact Nat.mul_mod_left _ _) hst H.size) (cwV 2 hts (gV tw_541 tw_542 tw_543 tw_5 tw_544) rfl rfl rfl (by decide +kernel) ⟨Nat.le_of_ble_eq_true rfl, Nat.le_of_ble_eq_true rfl⟩) ⟨c_blind (eX_X t5 ad), va_recv (ci := 2) (q0 := 3) hK hP rfl rfl, fun U hU hW => c_pre (wc := [(dc, .inr (2, [.ref dw, .int (iI ((fq : Int))), .int (iI ((tq : Int)))])), (dw, .inl (cI, 465, .inl h))]) (eX_X t5 ad) hE hK hP hD hS hA [3, 4] rfl (by decide) U hU hW⟩ rfl rfl hl.1 rfl (lv_room (Nat.le_of_ble_eq_true rfl)) d_Mo_nearest_120 ⟨Nat.le_of_ble_eq_true rfl, Nat.le_of_ble_eq_true rfl⟩) hP hD hS hA [3, 4] [0, 1, 2] rfl rfl (by decide) (by decide) (fun u H locs hp hP hD hS => ?_)
        obtain ⟨f3, fr3, to3, hde3, rfl⟩ := hp
        have hP : va_P D ecl [(mo, .inr (4, [.ref nb, .ref un, .ref ov, .ref xx, .ref dc, .int (iI (zl)), .int (iI (0)), .long (ma), .int (iI (pw)), .int (iI (zk))])), (nb, .inr (3, [.ref nd, .int (iI (((dl X : Nat) : Int))), .int (iI (pt))])), (nd, .inl (cB, 4200, .inl d)), (dc, .inr (2, [.ref dw, .int (iI ((fr3 : Int))), .int (iI ((to3 : Int)))])), (dw, .inl (cI, 465, .inl f3))] H := hP
        have hD : va_D A [(mo, .inr (4, [.ref nb, .ref un, .ref ov, .ref xx, .ref dc, .int (iI (zl)), .int (iI (0)), .long (ma), .int (iI (pw)), .int (iI (zk))])), (nb, .inr (3, [.ref nd, .int (iI (((dl X : Nat) : Int))), .int (iI (pt))])), (nd, .inl (cB, 4200, .inl d)), (dc, .inr (2, [.ref dw, .int (iI ((fr3 : Int))), .int (iI ((to3 : Int)))])), (dw, .inl (cI, 465, .inl f3))] := hD
        have hP := hP.sub (ws' := [(mo, .inr (4, [.ref nb, .ref un, .ref ov, .ref xx, .ref dc, .int (iI (zl)), .int (iI (0)), .long (ma), .int (iI (pw)), .int (iI (zk))])), (nb, .inr (3, [.ref nd, .int (iI (((dl X : Nat) : Int))), .int (iI (pt))])), (nd, .inl (cB, 4200, .inl d)), (dc, .inr (2, [.ref dw, .int (iI ((fr3 : Int))), .int (iI ((to3 : Int)))])), (dw, .inl (cI, 465, .inl f3))]) [0, 1, 2, 3, 4] rfl
        have hD := hD.sub (ws' := [(mo, .inr (4, [.ref nb, .ref un, .ref ov, .ref xx, .ref dc, .int (iI (zl)), .int (iI (0)), .long (ma), .int (iI (pw)), .int (iI (zk))])), (nb, .inr (3, [.ref nd, .int (iI (((dl X : Nat) : Int))), .int (iI (pt))])), (nd, .inl (cB, 4200, .inl d)), (dc, .inr (2, [.ref dw, .int (iI ((fr3 : Int))), .int (iI ((to3 : Int)))])), (dw, .inl (cI, 465, .inl f3))]) [0, 1, 2, 3, 4] (by decide) rfl
        refine lv_iinc (k := 3) (v := iI (zk9 + 1)) hx hb d_Mo_nearest_123 hl rfl (iI_add _ _) (by decide) rfl (fun ls hl => ?_)
        have hl : lv_has ls 12 [(4, .int (iI (zk9 + 1))), (0, .ref mo), (1, .int (iI (zz))), (2, .long (jI (((ifz kf : Nat) : Int))))] := hl
        refine lv_goto (tgt := 69) hx hb d_Mo_nearest_126 rfl ?_
        have hl := lv_sub hl [1, 2, 3, 0] rfl
        exact ih _ (by omega) (T + dj * 10 ^ (cz - 1 - j)) (j + 1) (f3) (fr3) (to3) _ ls H locs rfl (by omega) (by omega) (by rw [hT]; exact (tj_s (by omega) (by omega) hdj).symm) (Or.inr ⟨Nat.lt_of_lt_of_le (Nat.mul_pos (by omega) (p10_pos _)) (Nat.le_add_left _ _), hde3⟩) (hptb) (hX0) hl hP hD hS
  have L19 : ∀   (ls : Array Slot) (H : Heap) (locs : List Loc), lv_has ls 12 [(0, .ref mo), (1, .int (iI (zz))), (2, .long (jI (((ifz kf : Nat) : Int))))] → va_P D ecl [(mo, .inr (4, [.ref nb, .ref un, .ref ov, .ref xx, .ref dc, .int (iI (zl)), .int (iI (0)), .long (ma), .int (iI (pw)), .int (iI (zk))])), (nb, .inr (3, [.ref nd, .int (iI (((dl X : Nat) : Int))), .int (iI (pt))])), (nd, .inl (cB, 4200, .inl d)), (dc, .inr (2, [.ref dw, .int (iI ((fr : Int))), .int (iI ((to : Int)))])), (dw, .inl (cI, 465, .inl f))] H → va_D A [(mo, .inr (4, [.ref nb, .ref un, .ref ov, .ref xx, .ref dc, .int (iI (zl)), .int (iI (0)), .long (ma), .int (iI (pw)), .int (iI (zk))])), (nb, .inr (3, [.ref nd, .int (iI (((dl X : Nat) : Int))), .int (iI (pt))])), (nd, .inl (cB, 4200, .inl d)), (dc, .inr (2, [.ref dw, .int (iI ((fr : Int))), .int (iI ((to : Int)))])), (dw, .inl (cI, 465, .inl f))] → va_S A s.heap H locs → W p l e (headSpec (Cond.code m_Mo_nearest b_Mo_nearest 12 (some .long) :: gw) (rm_ 3 63)).room s m ([.ref mo, .int (iI (zz))] : List Value).toArray below meth c H locs 0 0 (MQ below (va_Ql (fun r u => (∃ rn : Nat, r = jI (rn : Int) ∧ NR (fbz kf + 1) (ifz kf) (nP X (pt - ((dl X : Nat) : Int)) kf) (nM (pt - ((dl X : Nat) : Int))) (zl = 1) rn) ∧ ∃ (f' : Nat → Int32) (fr' to' : Nat), dz_ok f' fr' to' ∧ u = [(mo, .inr (4, [.ref nb, .ref un, .ref ov, .ref xx, .ref dc, .int (iI (zl)), .int (iI (0)), .long (ma), .int (iI (pw)), .int (iI (zk))])), (nb, .inr (3, [.ref nd, .int (iI (((dl X : Nat) : Int))), .int (iI (pt))])), (nd, .inl (cB, 4200, .inl d)), (dc, .inr (2, [.ref dw, .int (iI ((fr' : Int))), .int (iI ((to' : Int)))])), (dw, .inl (cI, 465, .inl f'))]) (c_B D ecl A) A) ([.ref mo, .int (iI (zz))] : List Value).toArray s 0 0 A) (F0 m 19 ls []) := by
    intro ls H locs hl hP hD hS
    have hd0 : dl X = 0 ↔ X = 0 := ⟨fun y => dl_eq0 y, fun y => by rw [y, dl_0]⟩
    refine lv_aload_n hx hb d_Mo_nearest_19 rfl (lv_at hl 0 rfl) ?_
    refine va_get (D := D) (ci := 4) (v := .ref nb) (C := R_Mo) (T := T_Mo) (N := 10) hx hb hts (fun w h => List.mem_cons_of_mem _ (in_Mo w h)) hown hK hP 0 rfl rfl 0 (by decide) (hts _ (List.mem_cons_of_mem _ tw_390)) (fun _ h9 => h9) rfl d_Mo_nearest_20 ?_
    refine va_get (D := D) (ci := 3) (v := .int (iI (((dl X : Nat) : Int)))) (C := R_Ro) (T := T_Ro) (N := 3) hx hb hts (fun w h => List.mem_cons_of_mem _ (in_Ro w h)) hown hK hP 1 rfl rfl 1 (by decide) (hts _ (List.mem_cons_of_mem _ tw_362)) (fun _ h9 => h9) rfl d_Mo_nearest_23 ?_
    refine ed_if_eq (tgt := 42) hx hb d_Mo_nearest_26 rfl (by omega) (fun h_45 => ?_) (fun h_45 => ?_)
    · skip
      refine ed_pc (pc' := 42) rfl ?_
      refine lv_lconst (v := jI 0) hx hb d_Mo_nearest_42 (by decide +kernel) ?_
      have hX0 : X = 0 := hd0.mp (by omega)
      exact W.lret (v := (jI (0))) hx hb hr (fun t9 ht9 hW9 => ⟨⟨(jI (0)), [(mo, .inr (4, [.ref nb, .ref un, .ref ov, .ref xx, .ref dc, .int (iI (zl)), .int (iI (0)), .long (ma), .int (iI (pw)), .int (iI (zk))])), (nb, .inr (3, [.ref nd, .int (iI (((dl X : Nat) : Int))), .int (iI (pt))])), (nd, .inl (cB, 4200, .inl d)), (dc, .inr (2, [.ref dw, .int (iI ((fr : Int))), .int (iI ((to : Int)))])), (dw, .inl (cI, 465, .inl f))], rfl, ⟨⟨0, rfl, by rw [hX0]; exact NR_small (ns_zero _ _)⟩, f, fr, to, hdz0, rfl⟩, by rw [ht9]; exact hP, hD⟩, hS.F ht9⟩) hS.2.2 d_Mo_nearest_43
    · skip
      refine ed_pc (pc' := 29) rfl ?_
      have hX0 : 0 < X := by omega
      refine lv_aload_n hx hb d_Mo_nearest_29 rfl (lv_at hl 0 rfl) ?_
      refine va_get (D := D) (ci := 4) (v := .ref nb) (C := R_Mo) (T := T_Mo) (N := 10) hx hb hts (fun w h => List.mem_cons_of_mem _ (in_Mo w h)) hown hK hP 0 rfl rfl 0 (by decide) (hts _ (List.mem_cons_of_mem _ tw_390)) (fun _ h9 => h9) rfl d_Mo_nearest_30 ?_
      refine va_get (D := D) (ci := 3) (v := .int (iI (pt))) (C := R_Ro) (T := T_Ro) (N := 3) hx hb hts (fun w h => List.mem_cons_of_mem _ (in_Ro w h)) hown hK hP 1 rfl rfl 2 (by decide) (hts _ (List.mem_cons_of_mem _ tw_364)) (fun _ h9 => h9) rfl d_Mo_nearest_33 ?_
      refine ed_pc (pc' := 36) rfl ?_
      refine lv_sipush (v := iI (-400)) hx hb d_Mo_nearest_36 (by decide +kernel) ?_
      refine ed_icmp_ge (tgt := 44) hx hb d_Mo_nearest_39 rfl (by omega) (by omega) (fun h_46 => ?_) (fun h_46 => ?_)
      · skip
        refine ed_pc (pc' := 44) rfl ?_
        refine lv_aload_n hx hb d_Mo_nearest_44 rfl (lv_at hl 0 rfl) ?_
        refine va_get (D := D) (ci := 4) (v := .ref nb) (C := R_Mo) (T := T_Mo) (N := 10) hx hb hts (fun w h => List.mem_cons_of_mem _ (in_Mo w h)) hown hK hP 0 rfl rfl 0 (by decide) (hts _ (List.mem_cons_of_mem _ tw_390)) (fun _ h9 => h9) rfl d_Mo_nearest_45 ?_
        refine va_get (D := D) (ci := 3) (v := .int (iI (pt))) (C := R_Ro) (T := T_Ro) (N := 3) hx hb hts (fun w h => List.mem_cons_of_mem _ (in_Ro w h)) hown hK hP 1 rfl rfl 2 (by decide) (hts _ (List.mem_cons_of_mem _ tw_364)) (fun _ h9 => h9) rfl d_Mo_nearest_48 ?_
        refine lv_sipush (v := iI 400) hx hb d_Mo_nearest_51 (by decide +kernel) ?_
        refine ed_icmp_le (tgt := 59) hx hb d_Mo_nearest_54 rfl (by omega) (by omega) (fun h_47 => ?_) (fun h_47 => ?_)
        · skip
          refine ed_pc (pc' := 59) rfl ?_
          refine lv_aload_n hx hb d_Mo_nearest_59 rfl (lv_at hl 0 rfl) ?_
          refine ed_pc (pc' := 60) rfl ?_
          refine va_get (D := D) (ci := 4) (v := .ref dc) (C := R_Mo) (T := T_Mo) (N := 10) hx hb hts (fun w h => List.mem_cons_of_mem _ (in_Mo w h)) hown hK hP 0 rfl rfl 4 (by decide) (hts _ (List.mem_cons_of_mem _ tw_394)) (fun _ h9 => h9) rfl d_Mo_nearest_60 ?_
          refine c_fv (wc := [(dc, .inr (2, [.ref dw, .int (iI ((fr : Int))), .int (iI ((to : Int)))])), (dw, .inl (cI, 465, .inl f))]) (wr := [(mo, .inr (4, [.ref nb, .ref un, .ref ov, .ref xx, .ref dc, .int (iI (zl)), .int (iI (0)), .long (ma), .int (iI (pw)), .int (iI (zk))])), (nb, .inr (3, [.ref nd, .int (iI (((dl X : Nat) : Int))), .int (iI (pt))])), (nd, .inl (cB, 4200, .inl d))]) (va_runV (C := "ExactDigitsModel$Decimal") (As := []) (rest := []) ⟨hx, hb, hml, hown, hts⟩ (c_De_clear l D cB cI cJ t5 ad dc dw fr to f hdz0 H.size) (cwV 0 hts (gV tw_537 tw_538 tw_539 tw_5 tw_540) rfl rfl rfl (by decide +kernel) ⟨Nat.le_of_ble_eq_true rfl, Nat.le_of_ble_eq_true rfl⟩) ⟨c_blind (eX_X t5 ad), va_recv (ci := 2) (q0 := 3) hK hP rfl rfl, fun U hU hW => c_pre (wc := [(dc, .inr (2, [.ref dw, .int (iI ((fr : Int))), .int (iI ((to : Int)))])), (dw, .inl (cI, 465, .inl f))]) (eX_X t5 ad) hE hK hP hD hS hA [3, 4] rfl (by decide) U hU hW⟩ rfl rfl hl.1 rfl (lv_room (Nat.le_of_ble_eq_true rfl)) d_Mo_nearest_63 ⟨Nat.le_of_ble_eq_true rfl, Nat.le_of_ble_eq_true rfl⟩) hP hD hS hA [3, 4] [0, 1, 2] rfl rfl (by decide) (by decide) (fun u H locs hp hP hD hS => ?_)
          obtain ⟨f3, hf3, rfl⟩ := hp
          have hP : va_P D ecl [(mo, .inr (4, [.ref nb, .ref un, .ref ov, .ref xx, .ref dc, .int (iI (zl)), .int (iI (0)), .long (ma), .int (iI (pw)), .int (iI (zk))])), (nb, .inr (3, [.ref nd, .int (iI (((dl X : Nat) : Int))), .int (iI (pt))])), (nd, .inl (cB, 4200, .inl d)), (dc, .inr (2, [.ref dw, .int (iI (45)), .int (iI (45))])), (dw, .inl (cI, 465, .inl f3))] H := hP
          have hD : va_D A [(mo, .inr (4, [.ref nb, .ref un, .ref ov, .ref xx, .ref dc, .int (iI (zl)), .int (iI (0)), .long (ma), .int (iI (pw)), .int (iI (zk))])), (nb, .inr (3, [.ref nd, .int (iI (((dl X : Nat) : Int))), .int (iI (pt))])), (nd, .inl (cB, 4200, .inl d)), (dc, .inr (2, [.ref dw, .int (iI (45)), .int (iI (45))])), (dw, .inl (cI, 465, .inl f3))] := hD
          refine lv_iconst (v := iI 0) hx hb d_Mo_nearest_66 rfl ?_
          refine lv_istore hx hb d_Mo_nearest_67 hl (by decide) rfl (fun ls hl => ?_)
          have hl : lv_has ls 12 [(4, .int (iI (0))), (0, .ref mo), (1, .int (iI (zz))), (2, .long (jI (((ifz kf : Nat) : Int))))] := hl
          have hl := lv_sub hl [1, 2, 3, 0] rfl
          exact L69 _ (0) (0) (f3) (45) (45) _ ls H locs rfl (rfl) (by omega) (by rw [Nat.sub_zero, Nat.div_eq_of_lt (dl_lt X), Nat.zero_mul]) (Or.inl ⟨rfl, rfl, rfl, hf3⟩) (by omega) (hX0) hl hP hD hS
        · skip
          refine ed_pc (pc' := 57) rfl ?_
          refine lv_lload_n hx hb d_Mo_nearest_57 rfl (lv_at hl 2 rfl) ?_
          exact W.lret (v := (jI (((ifz kf : Nat) : Int)))) hx hb hr (fun t9 ht9 hW9 => ⟨⟨(jI (((ifz kf : Nat) : Int))), [(mo, .inr (4, [.ref nb, .ref un, .ref ov, .ref xx, .ref dc, .int (iI (zl)), .int (iI (0)), .long (ma), .int (iI (pw)), .int (iI (zk))])), (nb, .inr (3, [.ref nd, .int (iI (((dl X : Nat) : Int))), .int (iI (pt))])), (nd, .inl (cB, 4200, .inl d)), (dc, .inr (2, [.ref dw, .int (iI ((fr : Int))), .int (iI ((to : Int)))])), (dw, .inl (cI, 465, .inl f))], rfl, ⟨⟨_, rfl, ns_large (L := dl X) hkf (dl_pos hX0) (dl_le hX0) (by omega)⟩, f, fr, to, hdz0, rfl⟩, by rw [ht9]; exact hP, hD⟩, hS.F ht9⟩) hS.2.2 d_Mo_nearest_58
      · skip
        refine ed_pc (pc' := 42) rfl ?_
        refine lv_lconst (v := jI 0) hx hb d_Mo_nearest_42 (by decide +kernel) ?_
        exact W.lret (v := (jI (0))) hx hb hr (fun t9 ht9 hW9 => ⟨⟨(jI (0)), [(mo, .inr (4, [.ref nb, .ref un, .ref ov, .ref xx, .ref dc, .int (iI (zl)), .int (iI (0)), .long (ma), .int (iI (pw)), .int (iI (zk))])), (nb, .inr (3, [.ref nd, .int (iI (((dl X : Nat) : Int))), .int (iI (pt))])), (nd, .inl (cB, 4200, .inl d)), (dc, .inr (2, [.ref dw, .int (iI ((fr : Int))), .int (iI ((to : Int)))])), (dw, .inl (cI, 465, .inl f))], rfl, ⟨⟨0, rfl, NR_small (ns_small (L := dl X) hkf (dl_lt X) (by omega))⟩, f, fr, to, hdz0, rfl⟩, by rw [ht9]; exact hP, hD⟩, hS.F ht9⟩) hS.2.2 d_Mo_nearest_43
  refine lv_aload_n hx hb d_Mo_nearest_0 rfl (lv_at hl 0 rfl) ?_
  refine lv_iconst (v := iI 0) hx hb d_Mo_nearest_1 rfl ?_
  refine va_put (D := D) (ci := 4) (v := .int (iI (0))) (ty := .int) (C := R_Mo) (T := T_Mo) (N := 10) hx hb hts (fun w h => List.mem_cons_of_mem _ (in_Mo w h)) y_Mo t_Mo n_Mo hown hK hP hD hS 0 rfl rfl 6 (by decide) (hts _ (List.mem_cons_of_mem _ tw_396)) (fun _ h9 => h9) rfl (by decide +kernel) rfl rfl (Nat.le_of_ble_eq_true rfl) d_Mo_nearest_2 (fun H locs hP hD hS => ?_)
  have hP : va_P D ecl [(mo, .inr (4, [.ref nb, .ref un, .ref ov, .ref xx, .ref dc, .int (iI (zl)), .int (iI (0)), .long (ma), .int (iI (pw)), .int (iI (zk))])), (nb, .inr (3, [.ref nd, .int (iI (((dl X : Nat) : Int))), .int (iI (pt))])), (nd, .inl (cB, 4200, .inl d)), (dc, .inr (2, [.ref dw, .int (iI ((fr : Int))), .int (iI ((to : Int)))])), (dw, .inl (cI, 465, .inl f))] H := hP
  have hD : va_D A [(mo, .inr (4, [.ref nb, .ref un, .ref ov, .ref xx, .ref dc, .int (iI (zl)), .int (iI (0)), .long (ma), .int (iI (pw)), .int (iI (zk))])), (nb, .inr (3, [.ref nd, .int (iI (((dl X : Nat) : Int))), .int (iI (pt))])), (nd, .inl (cB, 4200, .inl d)), (dc, .inr (2, [.ref dw, .int (iI ((fr : Int))), .int (iI ((to : Int)))])), (dw, .inl (cI, 465, .inl f))] := hD
  refine lv_iload_n hx hb d_Mo_nearest_5 rfl (lv_at hl 1 rfl) ?_
  refine ed_if_eq (tgt := 15) hx hb d_Mo_nearest_6 rfl (by omega) (fun h_48 => ?_) (fun h_48 => ?_)
  · skip
    refine ed_pc (pc' := 15) rfl ?_
    have hk01 : kf = 0 := by rw [hkf9]; simp only [if_pos (show zz = 0 by omega)]
    have hif : ifz kf = 9218868437227405312 := by rw [hk01]; rfl
    refine lv_ldc2 (v := 9218868437227405312) hx hb hown (hts _ (List.mem_cons_of_mem _ tw_536)) d_Mo_nearest_15 ?_
    refine ed_tl (y := (jI (9218868437227405312))) (by decide +kernel) ?_
    refine ed_tj (y := ((ifz kf : Nat) : Int)) (by rw [hif]; rfl) ?_
    refine lv_lstore_n hx hb d_Mo_nearest_18 rfl hl (by decide) rfl (fun ls hl => ?_)
    have hl : lv_has ls 12 [(2, .long (jI (((ifz kf : Nat) : Int)))), (0, .ref mo), (1, .int (iI (zz)))] := hl
    have hl := lv_sub hl [1, 2, 0] rfl
    exact L19   ls H locs  hl hP hD hS
  · skip
    refine ed_pc (pc' := 9) rfl ?_
    have hk01 : kf = 1 := by rw [hkf9]; simp only [if_neg (show ¬ zz = 0 by omega)]
    have hif : ifz kf = 2139095040 := by rw [hk01]; rfl
    refine lv_ldc2 (v := 2139095040) hx hb hown (hts _ (List.mem_cons_of_mem _ tw_535)) d_Mo_nearest_9 ?_
    refine ed_tl (y := (jI (2139095040))) (by decide +kernel) ?_
    refine lv_goto (tgt := 18) hx hb d_Mo_nearest_12 rfl ?_
    refine ed_tj (y := ((ifz kf : Nat) : Int)) (by rw [hif]; rfl) ?_
    refine ed_pc (pc' := 18) rfl ?_
    refine lv_lstore_n hx hb d_Mo_nearest_18 rfl hl (by decide) rfl (fun ls hl => ?_)
    have hl : lv_has ls 12 [(2, .long (jI (((ifz kf : Nat) : Int)))), (0, .ref mo), (1, .int (iI (zz)))] := hl
    have hl := lv_sub hl [1, 2, 0] rfl
    exact L19   ls H locs  hl hP hD hS
