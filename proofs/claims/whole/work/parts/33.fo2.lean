set_option maxHeartbeats 4000000 in
set_option maxRecDepth 100000 in
/-- nearestTo(head, more, exponent) -/
theorem c_Fo_nearestTo (l : Launch) (D : va_G) (cB cI cJ : ClassId) (t5 : Nat) (ad : Nat → Nat) (kf h : Nat) (zm ez : Int) (P M num t rem : Nat) (b : Prop) (hkf : kf < 2) (hh1 : 2 ^ 56 ≤ h) (hh2 : h < 2 ^ 62) (hez : -3000 ≤ ez ∧ ez ≤ 3000) (hM : 0 < M) (ht : 0 < t) (hn : num = h * t + rem) (hrm : rem < t) (hzm : (zm = 1 ∧ (b ∨ 0 < rem)) ∨ (zm = 0 ∧ ¬ (b ∨ 0 < rem))) (hXX : ∀ dp E : Nat, (E : Int) = ez + dp - lez kf → P * (t * 2 ^ dp) = num * (M * 2 ^ E)) : c_L l m_Fo_nearestTo (Cond.code m_Fo_nearestTo b_Fo_nearestTo 15 (some .long) :: gw) (rm_ 1 22) (eX t5 ad) D ecl (tyS cB cI cJ) [.ref (ad kf), .long (jI ((h : Int))), .int (iI (zm)), .int (iI (ez))] [] (fun r u => (∃ rn : Nat, r = jI (rn : Int) ∧ NR (fbz kf + 1) (ifz kf) P M b rn) ∧ u = []) 0 0 := by
  intro sz0
  refine Met.ofW (cc := b_Fo_nearestTo) (maxL := 15) (ret := (some .long)) (by decide) rfl ?_
  intro p e s m args below meth c s₁ B hml hv
  obtain ⟨rfl, hsz, hP, hK, hD0, hE⟩ := hv
  have hx := B.exec
  have hb := B.bytes
  have hr := B.returns
  have hts := atoms_spec (ws := Cond.code m_Fo_nearestTo b_Fo_nearestTo 15 (some .long) :: gw) B.pre
  have hown : s.vm.findClass R_Fo = some m.cls := findClass_of_methodNamed B.named
  have hlocks := B.notSynchronized
  subst hsz
  have hD := hD0.self (sz := s.heap.size)
  generalize hAe : va_A [] s.heap.size = A at hD hE ⊢
  have hA : ∀ q : Nat, s.heap.size ≤ q → A q := fun q h => by rw [← hAe]; exact Or.inr h
  have hS : va_S A s.heap s.heap [] := va_S.rf
  have hl := lv_entry ([.ref (ad kf), .long (jI ((h : Int))), .int (iI (zm)), .int (iI (ez))]) (n := 15) (Nat.le_of_ble_eq_true rfl)
  rw [lg_entry_eq]
  generalize (lg_sl ([.ref (ad kf), .long (jI ((h : Int))), .int (iI (zm)), .int (iI (ez))]) ++ List.replicate (15 - (lg_sl ([.ref (ad kf), .long (jI ((h : Int))), .int (iI (zm)), .int (iI (ez))])).length) Slot.unset).toArray = ls at hl ⊢
  have hl : lv_has ls 15 [(0, .ref (ad kf)), (1, .long (jI ((h : Int)))), (3, .int (iI (zm))), (4, .int (iI (ez)))] := hl
  have hE0 := hE
  obtain ⟨hE1, hE2, hE3, hE4, hE5, hE6, hE7, hE8, hE9, hE10, hE11, hE12⟩ := hE0
  have hfz := fz_all kf hkf
  have hb57 : 56 < bl h := bl_ge hh1
  have hb62 : bl h ≤ 62 := bl_bound hh2
  obtain ⟨dp, hdp⟩ : ∃ dp : Nat, (dp : Int) = max (((bl h : Nat) : Int) - 1 - ((fbz kf : Nat) : Int)) (lez kf - ez) := ⟨(max (((bl h : Nat) : Int) - 1 - ((fbz kf : Nat) : Int)) (lez kf - ez)).toNat, by omega⟩
  obtain ⟨E, hEE⟩ : ∃ E : Nat, (E : Int) = ez + dp - lez kf := ⟨(ez + dp - lez kf).toNat, by omega⟩
  have hX := hXX dp E hEE
  clear hXX
  have hb1 : bl h ≤ dp + (fbz kf + 1) := by omega
  have hb2 : 0 < E → bl h = dp + fbz kf + 1 := fun z => by omega
  have hp0 : 0 < h := by omega
  have hd1 : 1 ≤ dp := by omega
  have L130 : ∀ (q : Nat) (u : Nat) (zu : Int) (ls : Array Slot) (H : Heap) (locs : List Loc), (q = h / 2 ^ dp) → (zu = (u : Int)) → (E + 1 ≤ jz kf) → (((u = 1 ∧ (2 ^ (dp - 1) < h - q * 2 ^ dp ∨ (2 ^ (dp - 1) = h - q * 2 ^ dp ∧ ((b ∨ 0 < rem) ∨ q % 2 = 1)))) ∨ (u = 0 ∧ ¬ (2 ^ (dp - 1) < h - q * 2 ^ dp ∨ (2 ^ (dp - 1) = h - q * 2 ^ dp ∧ ((b ∨ 0 < rem) ∨ q % 2 = 1)))))) → lv_has ls 15 [(0, .ref (ad kf)), (7, .int (iI ((E : Int)))), (8, .long (jI ((q : Int))))] → va_P D ecl [] H → va_D A [] → va_S A s.heap H locs → W p l e (headSpec (Cond.code m_Fo_nearestTo b_Fo_nearestTo 15 (some .long) :: gw) (rm_ 1 22)).room s m ([.ref (ad kf), .long (jI ((h : Int))), .int (iI (zm)), .int (iI (ez))] : List Value).toArray below meth c H locs 0 0 (MQ below (va_Ql (fun r u => (∃ rn : Nat, r = jI (rn : Int) ∧ NR (fbz kf + 1) (ifz kf) P M b rn) ∧ u = []) (c_B D ecl A) A) ([.ref (ad kf), .long (jI ((h : Int))), .int (iI (zm)), .int (iI (ez))] : List Value).toArray s 0 0 A) (F0 m 130 ls [.int (iI (zu))]) := by
    intro q u zu ls H locs hq hzu hEj hu hl hP hD hS
    refine lv_istore hx hb d_Fo_nearestTo_130 hl (by decide) rfl (fun ls hl => ?_)
    have hl : lv_has ls 15 [(14, .int (iI (zu))), (0, .ref (ad kf)), (7, .int (iI ((E : Int)))), (8, .long (jI ((q : Int))))] := hl
    have hq1 : q < 2 ^ (fbz kf + 1) := by rw [hq]; exact nt_q1 hb1
    have hu1 : u ≤ 1 := by omega
    have hNR := nt_main (kf := kf) (b := b) hM ht hn hrm hX hd1 hq rfl hb1 hb2 hp0 hu
    have hle := nt_le hkf hEj hq1 hu1
    rw [Nat.min_eq_right hle] at hNR
    obtain ⟨sf, hsf⟩ : ∃ sf : Nat, sf = E * 2 ^ fbz kf := ⟨_, rfl⟩
    rw [← hsf] at hNR hle
    refine lv_iload hx hb d_Fo_nearestTo_132 (lv_at hl 2 rfl) ?_
    refine ed_i2l hx hb d_Fo_nearestTo_134 (by omega) ?_
    refine lv_aload_n hx hb d_Fo_nearestTo_135 rfl (lv_at hl 1 rfl) ?_
    refine va_getX hx hb hE6 hkf hS hown (hts _ (List.mem_cons_of_mem _ tw_599)) (fun _ h9 => h9) d_Fo_nearestTo_136 ?_
    refine lv_lshl (v := (jI ((sf : Int)))) hx hb d_Fo_nearestTo_139 (by rw [hsf]; exact shl_l (by omega)) ?_
    refine lv_lload hx hb d_Fo_nearestTo_140 (lv_at hl 3 rfl) ?_
    refine ed_pc (pc' := 142) rfl ?_
    refine ed_ladd hx hb d_Fo_nearestTo_142 ?_
    refine lv_iload hx hb d_Fo_nearestTo_143 (lv_at hl 0 rfl) ?_
    refine ed_if_eq (tgt := 152) hx hb d_Fo_nearestTo_145 rfl (by omega) (fun h_1 => ?_) (fun h_1 => ?_)
    · skip
      refine ed_pc (pc' := 152) rfl ?_
      refine lv_iconst (v := iI 0) hx hb d_Fo_nearestTo_152 rfl ?_
      refine ed_i2l hx hb d_Fo_nearestTo_153 (by omega) ?_
      refine ed_ladd hx hb d_Fo_nearestTo_154 ?_
      exact W.lret (v := (jI ((((sf : Int)) + ((q : Int))) + (0)))) hx hb hr (fun t9 ht9 hW9 => ⟨⟨(jI ((((sf : Int)) + ((q : Int))) + (0))), [], rfl, ⟨⟨sf + q + u, by congr 1; omega, hNR⟩, rfl⟩, by rw [ht9]; exact hP, hD⟩, hS.F ht9⟩) hS.2.2 d_Fo_nearestTo_155
    · skip
      refine ed_pc (pc' := 148) rfl ?_
      refine lv_iconst (v := iI 1) hx hb d_Fo_nearestTo_148 rfl ?_
      refine lv_goto (tgt := 153) hx hb d_Fo_nearestTo_149 rfl ?_
      refine ed_i2l hx hb d_Fo_nearestTo_153 (by omega) ?_
      refine ed_ladd hx hb d_Fo_nearestTo_154 ?_
      exact W.lret (v := (jI ((((sf : Int)) + ((q : Int))) + (1)))) hx hb hr (fun t9 ht9 hW9 => ⟨⟨(jI ((((sf : Int)) + ((q : Int))) + (1))), [], rfl, ⟨⟨sf + q + u, by congr 1; omega, hNR⟩, rfl⟩, by rw [ht9]; exact hP, hD⟩, hS.F ht9⟩) hS.2.2 d_Fo_nearestTo_155
  refine lv_lload_n hx hb d_Fo_nearestTo_0 rfl (lv_at hl 1 rfl) ?_
  refine c_fi (wc := []) (wr := []) (va_runS (As := [.long (jI ((h : Int)))]) (rest := []) ⟨hx, hb, hml, hown, hts⟩ (c_Fo_bitsOf l D cB cI cJ t5 ad h (by omega) s.heap.size) (va_cwS 1 hts (gS tw_142 tw_143 tw_10 tw_144) rfl rfl rfl (by decide +kernel) ⟨Nat.le_of_ble_eq_true rfl, Nat.le_of_ble_eq_true rfl⟩) ⟨c_blind (eX_X t5 ad), fun U hU hW => c_pre (wc := []) (eX_X t5 ad) hE hK hP hD hS hA [] rfl (by decide) U hU hW⟩ rfl rfl hl.1 rfl (lv_room (Nat.le_of_ble_eq_true rfl)) d_Fo_nearestTo_1 ⟨Nat.le_of_ble_eq_true rfl, Nat.le_of_ble_eq_true rfl⟩) hP hD hS hA [] [] rfl rfl (by decide) (by decide) (fun r u H locs hp hP hD hS => ?_)
  obtain ⟨rfl, rfl⟩ := hp
  have hP : va_P D ecl [] H := hP
  have hD : va_D A [] := hD
  refine lv_iconst (v := iI 1) hx hb d_Fo_nearestTo_4 rfl ?_
  refine ed_isub hx hb d_Fo_nearestTo_5 ?_
  refine lv_aload_n hx hb d_Fo_nearestTo_6 rfl (lv_at hl 0 rfl) ?_
  refine va_getX hx hb hE6 hkf hS hown (hts _ (List.mem_cons_of_mem _ tw_599)) (fun _ h9 => h9) d_Fo_nearestTo_7 ?_
  refine ed_isub hx hb d_Fo_nearestTo_10 ?_
  refine ed_pc (pc' := 11) rfl ?_
  refine lv_istore hx hb d_Fo_nearestTo_11 hl (by decide) rfl (fun ls hl => ?_)
  have hl : lv_has ls 15 [(5, .int (iI (((((bl h : Nat) : Int)) - (1)) - (((fbz kf : Nat) : Int))))), (0, .ref (ad kf)), (1, .long (jI ((h : Int)))), (3, .int (iI (zm))), (4, .int (iI (ez)))] := hl
  refine lv_iload hx hb d_Fo_nearestTo_13 (lv_at hl 0 rfl) ?_
  refine lv_aload_n hx hb d_Fo_nearestTo_15 rfl (lv_at hl 1 rfl) ?_
  refine va_getX hx hb hE7 hkf hS hown (hts _ (List.mem_cons_of_mem _ tw_600)) (fun _ h9 => h9) d_Fo_nearestTo_16 ?_
  refine lv_iload hx hb d_Fo_nearestTo_19 (lv_at hl 4 rfl) ?_
  refine ed_isub hx hb d_Fo_nearestTo_21 ?_
  refine ed_max hx hb (hml.trans hl.1.symm) hown (hts _ (List.mem_cons_of_mem _ tw_145)) (hts _ (List.mem_cons_of_mem _ tw_146)) (hts _ (List.mem_cons_of_mem _ tw_6)) (hts _ (List.mem_cons_of_mem _ tw_147)) (Nat.le_of_ble_eq_true rfl) (Nat.le_of_ble_eq_true rfl) (Nat.le_of_ble_eq_true rfl) (Nat.le_of_ble_eq_true rfl) (by omega) (by omega) d_Fo_nearestTo_22 ?_
  refine ed_tz (y := (dp : Int)) (hdp.symm) ?_
  refine lv_istore hx hb d_Fo_nearestTo_25 hl (by decide) rfl (fun ls hl => ?_)
  have hl : lv_has ls 15 [(6, .int (iI ((dp : Int)))), (5, .int (iI (((((bl h : Nat) : Int)) - (1)) - (((fbz kf : Nat) : Int))))), (0, .ref (ad kf)), (1, .long (jI ((h : Int)))), (3, .int (iI (zm))), (4, .int (iI (ez)))] := hl
  refine ed_pc (pc' := 27) rfl ?_
  refine lv_iload hx hb d_Fo_nearestTo_27 (lv_at hl 5 rfl) ?_
  refine lv_iload hx hb d_Fo_nearestTo_29 (lv_at hl 0 rfl) ?_
  refine ed_iadd hx hb d_Fo_nearestTo_31 ?_
  refine lv_aload_n hx hb d_Fo_nearestTo_32 rfl (lv_at hl 2 rfl) ?_
  refine va_getX hx hb hE7 hkf hS hown (hts _ (List.mem_cons_of_mem _ tw_600)) (fun _ h9 => h9) d_Fo_nearestTo_33 ?_
  refine ed_isub hx hb d_Fo_nearestTo_36 ?_
  refine ed_tz (y := (E : Int)) (hEE.symm) ?_
  refine lv_istore hx hb d_Fo_nearestTo_37 hl (by decide) rfl (fun ls hl => ?_)
  have hl : lv_has ls 15 [(7, .int (iI ((E : Int)))), (6, .int (iI ((dp : Int)))), (5, .int (iI (((((bl h : Nat) : Int)) - (1)) - (((fbz kf : Nat) : Int))))), (0, .ref (ad kf)), (1, .long (jI ((h : Int)))), (3, .int (iI (zm))), (4, .int (iI (ez)))] := hl
  refine lv_iload hx hb d_Fo_nearestTo_39 (lv_at hl 1 rfl) ?_
  refine ed_pc (pc' := 41) rfl ?_
  refine lv_bipush (v := iI 63) hx hb d_Fo_nearestTo_41 (by decide +kernel) ?_
  refine ed_icmp_le (tgt := 48) hx hb d_Fo_nearestTo_43 rfl (by omega) (by omega) (fun h_2 => ?_) (fun h_2 => ?_)
  · skip
    refine ed_pc (pc' := 48) rfl ?_
    refine lv_iload hx hb d_Fo_nearestTo_48 (lv_at hl 0 rfl) ?_
    refine ed_i2l hx hb d_Fo_nearestTo_50 (by omega) ?_
    refine lv_aload_n hx hb d_Fo_nearestTo_51 rfl (lv_at hl 3 rfl) ?_
    refine va_getX hx hb hE9 hkf hS hown (hts _ (List.mem_cons_of_mem _ tw_601)) (fun _ h9 => h9) d_Fo_nearestTo_52 ?_
    refine lv_aload_n hx hb d_Fo_nearestTo_55 rfl (lv_at hl 3 rfl) ?_
    refine va_getX hx hb hE6 hkf hS hown (hts _ (List.mem_cons_of_mem _ tw_599)) (fun _ h9 => h9) d_Fo_nearestTo_56 ?_
    refine ed_pc (pc' := 59) rfl ?_
    refine lv_lushr (v := (jI (((jz kf + 1 : Nat) : Int)))) hx hb d_Fo_nearestTo_59 (by rw [shr_l (by omega) (by omega)]; congr 2; rw [ifz_eq kf hkf]; exact Nat.mul_div_cancel _ (p2_pos _)) ?_
    refine lv_ldc2 (v := 2) hx hb hown (hts _ (List.mem_cons_of_mem _ tw_148)) d_Fo_nearestTo_60 ?_
    refine ed_tl (y := (jI (2))) (by decide +kernel) ?_
    refine ed_lsub hx hb d_Fo_nearestTo_63 ?_
    refine ed_lif_le (tgt := 73) hx hb d_Fo_nearestTo_64 d_Fo_nearestTo_65 rfl (by omega) (by omega) (fun h_3 => ?_) (fun h_3 => ?_)
    · skip
      refine ed_pc (pc' := 73) rfl ?_
      obtain ⟨q, hq⟩ : ∃ q : Nat, q = h / 2 ^ dp := ⟨_, rfl⟩
      obtain ⟨kp, hkp⟩ : ∃ kp : Nat, kp = q * 2 ^ dp := ⟨_, rfl⟩
      have hkl : kp ≤ h := by rw [hkp, hq]; exact Nat.div_mul_le_self _ _
      have hql : q ≤ h := by rw [hq]; exact Nat.div_le_self _ _
      obtain ⟨hf, hhf⟩ : ∃ hf : Nat, hf = 2 ^ (dp - 1) := ⟨_, rfl⟩
      have hhl : hf ≤ 2 ^ 62 := by rw [hhf]; exact Nat.pow_le_pow_right (by decide) (by omega)
      refine lv_lload_n hx hb d_Fo_nearestTo_73 rfl (lv_at hl 4 rfl) ?_
      refine lv_iload hx hb d_Fo_nearestTo_74 (lv_at hl 1 rfl) ?_
      refine lv_lushr (v := (jI ((q : Int)))) hx hb d_Fo_nearestTo_76 (by rw [hq]; exact shr_l (by omega) (by omega)) ?_
      refine lv_lstore hx hb d_Fo_nearestTo_77 hl (by decide) rfl (fun ls hl => ?_)
      have hl : lv_has ls 15 [(8, .long (jI ((q : Int)))), (7, .int (iI ((E : Int)))), (6, .int (iI ((dp : Int)))), (5, .int (iI (((((bl h : Nat) : Int)) - (1)) - (((fbz kf : Nat) : Int))))), (0, .ref (ad kf)), (1, .long (jI ((h : Int)))), (3, .int (iI (zm))), (4, .int (iI (ez)))] := hl
      refine ed_pc (pc' := 79) rfl ?_
      refine lv_lload_n hx hb d_Fo_nearestTo_79 rfl (lv_at hl 5 rfl) ?_
      refine lv_lload hx hb d_Fo_nearestTo_80 (lv_at hl 0 rfl) ?_
      refine lv_iload hx hb d_Fo_nearestTo_82 (lv_at hl 2 rfl) ?_
      refine lv_lshl (v := (jI ((kp : Int)))) hx hb d_Fo_nearestTo_84 (by rw [hkp]; exact shl_l (by omega)) ?_
      refine ed_lsub hx hb d_Fo_nearestTo_85 ?_
      refine ed_tj (y := ((h - kp : Nat) : Int)) (by omega) ?_
      refine lv_lstore hx hb d_Fo_nearestTo_86 hl (by decide) rfl (fun ls hl => ?_)
      have hl : lv_has ls 15 [(10, .long (jI (((h - kp : Nat) : Int)))), (8, .long (jI ((q : Int)))), (7, .int (iI ((E : Int)))), (6, .int (iI ((dp : Int)))), (5, .int (iI (((((bl h : Nat) : Int)) - (1)) - (((fbz kf : Nat) : Int))))), (0, .ref (ad kf)), (1, .long (jI ((h : Int)))), (3, .int (iI (zm))), (4, .int (iI (ez)))] := hl
      refine lv_lconst (v := jI 1) hx hb d_Fo_nearestTo_88 (by decide +kernel) ?_
      refine lv_iload hx hb d_Fo_nearestTo_89 (lv_at hl 3 rfl) ?_
      refine ed_pc (pc' := 91) rfl ?_
      refine lv_iconst (v := iI 1) hx hb d_Fo_nearestTo_91 rfl ?_
      refine ed_isub hx hb d_Fo_nearestTo_92 ?_
      refine ed_tz (y := ((dp - 1 : Nat) : Int)) (by omega) ?_
      refine lv_lshl (v := (jI ((hf : Int)))) hx hb d_Fo_nearestTo_93 (by rw [hhf]; exact (shl_l (a := 1) (by omega)).trans (by rw [Nat.one_mul])) ?_
      refine lv_lstore hx hb d_Fo_nearestTo_94 hl (by decide) rfl (fun ls hl => ?_)
      have hl : lv_has ls 15 [(12, .long (jI ((hf : Int)))), (10, .long (jI (((h - kp : Nat) : Int)))), (8, .long (jI ((q : Int)))), (7, .int (iI ((E : Int)))), (6, .int (iI ((dp : Int)))), (5, .int (iI (((((bl h : Nat) : Int)) - (1)) - (((fbz kf : Nat) : Int))))), (0, .ref (ad kf)), (1, .long (jI ((h : Int)))), (3, .int (iI (zm))), (4, .int (iI (ez)))] := hl
      refine lv_lload hx hb d_Fo_nearestTo_96 (lv_at hl 1 rfl) ?_
      refine lv_lload hx hb d_Fo_nearestTo_98 (lv_at hl 0 rfl) ?_
      refine ed_lif_gt (tgt := 125) hx hb d_Fo_nearestTo_100 d_Fo_nearestTo_101 rfl (by omega) (by omega) (fun h_4 => ?_) (fun h_4 => ?_)
      · skip
        refine ed_pc (pc' := 125) rfl ?_
        refine lv_iconst (v := iI 1) hx hb d_Fo_nearestTo_125 rfl ?_
        refine ed_pc (pc' := 126) rfl ?_
        refine lv_goto (tgt := 130) hx hb d_Fo_nearestTo_126 rfl ?_
        have hl := lv_sub hl [6, 3, 2] rfl
        exact L130 (q) (1) _ ls H locs (hq) (rfl) (by omega) (Or.inl ⟨rfl, by rw [← hhf, ← hkp]; rcases hzm with ⟨z1, z2⟩ | ⟨z1, z2⟩ <;> first | exact Or.inl (by omega) | exact Or.inr ⟨by omega, Or.inl z2⟩ | exact Or.inr ⟨by omega, Or.inr (by omega)⟩ | (exfalso; omega)⟩) hl hP hD hS
      · skip
        refine ed_pc (pc' := 104) rfl ?_
        refine lv_lload hx hb d_Fo_nearestTo_104 (lv_at hl 1 rfl) ?_
        refine ed_pc (pc' := 106) rfl ?_
        refine lv_lload hx hb d_Fo_nearestTo_106 (lv_at hl 0 rfl) ?_
        refine ed_lif_ne (tgt := 129) hx hb d_Fo_nearestTo_108 d_Fo_nearestTo_109 rfl (by omega) (by omega) (fun h_5 => ?_) (fun h_5 => ?_)
        · skip
          refine ed_pc (pc' := 129) rfl ?_
          refine lv_iconst (v := iI 0) hx hb d_Fo_nearestTo_129 rfl ?_
          have hl := lv_sub hl [6, 3, 2] rfl
          exact L130 (q) (0) _ ls H locs (hq) (rfl) (by omega) (Or.inr ⟨rfl, by rw [← hhf, ← hkp]; rintro (y | ⟨y, (y2 | y3)⟩) <;> first | omega | (rcases hzm with ⟨z1, z2⟩ | ⟨z1, z2⟩ <;> first | omega | exact z2 y2)⟩) hl hP hD hS
        · skip
          refine ed_pc (pc' := 112) rfl ?_
          refine lv_iload_n hx hb d_Fo_nearestTo_112 rfl (lv_at hl 8 rfl) ?_
          refine ed_if_ne (tgt := 125) hx hb d_Fo_nearestTo_113 rfl (by omega) (fun h_6 => ?_) (fun h_6 => ?_)
          · skip
            refine ed_pc (pc' := 125) rfl ?_
            refine lv_iconst (v := iI 1) hx hb d_Fo_nearestTo_125 rfl ?_
            refine lv_goto (tgt := 130) hx hb d_Fo_nearestTo_126 rfl ?_
            have hl := lv_sub hl [6, 3, 2] rfl
            exact L130 (q) (1) _ ls H locs (hq) (rfl) (by omega) (Or.inl ⟨rfl, by rw [← hhf, ← hkp]; rcases hzm with ⟨z1, z2⟩ | ⟨z1, z2⟩ <;> first | exact Or.inl (by omega) | exact Or.inr ⟨by omega, Or.inl z2⟩ | exact Or.inr ⟨by omega, Or.inr (by omega)⟩ | (exfalso; omega)⟩) hl hP hD hS
          · skip
            refine ed_pc (pc' := 116) rfl ?_
            refine lv_lload hx hb d_Fo_nearestTo_116 (lv_at hl 2 rfl) ?_
            refine lv_lconst (v := jI 1) hx hb d_Fo_nearestTo_118 (by decide +kernel) ?_
            refine lv_land hx hb d_Fo_nearestTo_119 ?_
            refine ed_tl (y := (jI (((q % 2 : Nat) : Int)))) (and_1 (by omega)) ?_
            refine lv_lconst (v := jI 0) hx hb d_Fo_nearestTo_120 (by decide +kernel) ?_
            refine ed_pc (pc' := 121) rfl ?_
            refine ed_lif_eq (tgt := 129) hx hb d_Fo_nearestTo_121 d_Fo_nearestTo_122 rfl (by omega) (by omega) (fun h_7 => ?_) (fun h_7 => ?_)
            · skip
              refine ed_pc (pc' := 129) rfl ?_
              refine lv_iconst (v := iI 0) hx hb d_Fo_nearestTo_129 rfl ?_
              have hl := lv_sub hl [6, 3, 2] rfl
              exact L130 (q) (0) _ ls H locs (hq) (rfl) (by omega) (Or.inr ⟨rfl, by rw [← hhf, ← hkp]; rintro (y | ⟨y, (y2 | y3)⟩) <;> first | omega | (rcases hzm with ⟨z1, z2⟩ | ⟨z1, z2⟩ <;> first | omega | exact z2 y2)⟩) hl hP hD hS
            · skip
              refine ed_pc (pc' := 125) rfl ?_
              refine lv_iconst (v := iI 1) hx hb d_Fo_nearestTo_125 rfl ?_
              refine lv_goto (tgt := 130) hx hb d_Fo_nearestTo_126 rfl ?_
              have hl := lv_sub hl [6, 3, 2] rfl
              exact L130 (q) (1) _ ls H locs (hq) (rfl) (by omega) (Or.inl ⟨rfl, by rw [← hhf, ← hkp]; rcases hzm with ⟨z1, z2⟩ | ⟨z1, z2⟩ <;> first | exact Or.inl (by omega) | exact Or.inr ⟨by omega, Or.inl z2⟩ | exact Or.inr ⟨by omega, Or.inr (by omega)⟩ | (exfalso; omega)⟩) hl hP hD hS
    · skip
      refine ed_pc (pc' := 68) rfl ?_
      refine lv_aload_n hx hb d_Fo_nearestTo_68 rfl (lv_at hl 3 rfl) ?_
      refine va_getX hx hb hE9 hkf hS hown (hts _ (List.mem_cons_of_mem _ tw_601)) (fun _ h9 => h9) d_Fo_nearestTo_69 ?_
      exact W.lret (v := (jI (((ifz kf : Nat) : Int)))) hx hb hr (fun t9 ht9 hW9 => ⟨⟨(jI (((ifz kf : Nat) : Int))), [], rfl, ⟨⟨ifz kf, rfl, nt_inf hkf hM ht hn hrm hX hd1 hb1 hb2 hp0 (by omega)⟩, rfl⟩, by rw [ht9]; exact hP, hD⟩, hS.F ht9⟩) hS.2.2 d_Fo_nearestTo_72
  · skip
    refine ed_pc (pc' := 46) rfl ?_
    refine lv_lconst (v := jI 0) hx hb d_Fo_nearestTo_46 (by decide +kernel) ?_
    have hE00 : E = 0 := by omega
    rw [hE00] at hX
    exact W.lret (v := (jI (0))) hx hb hr (fun t9 ht9 hW9 => ⟨⟨(jI (0)), [], rfl, ⟨⟨0, rfl, NR_small (nto_small hM ht hn hrm hh2 (by omega) hX)⟩, rfl⟩, by rw [ht9]; exact hP, hD⟩, hS.F ht9⟩) hS.2.2 d_Fo_nearestTo_47
