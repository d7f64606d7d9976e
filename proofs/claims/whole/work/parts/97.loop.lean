theorem i15 (x : Int32) : ∃ k : Nat, k < 16 ∧ x &&& iI 15 = iI (k : Int) := by
  refine ⟨x.toBitVec.toNat % 16, Nat.mod_lt _ (by decide), ?_⟩
  apply Int32.toBitVec_inj.mp
  apply BitVec.eq_of_toNat_eq
  have h1 : (x &&& iI 15).toBitVec = x.toBitVec &&& 15#32 := by rw [Int32.toBitVec_and]; rfl
  have h2 : (iI ((x.toBitVec.toNat % 16 : Nat) : Int)).toBitVec = BitVec.ofNat 32 (x.toBitVec.toNat % 16) := by
    show BitVec.ofInt 32 ((x.toBitVec.toNat % 16 : Nat) : Int) = _
    exact BitVec.ofInt_natCast _ _
  rw [h1, h2, BitVec.toNat_and, BitVec.toNat_ofNat, BitVec.toNat_ofNat]
  show x.toBitVec.toNat &&& (2 ^ 4 - 1) = _
  rw [Nat.and_two_pow_sub_one_eq_mod]
  have : x.toBitVec.toNat % 16 < 16 := Nat.mod_lt _ (by decide)
  omega
theorem lwS_s {D : va_G} {cB cI cJ : ClassId} {A : Nat → Prop} {H0 H : Heap} {locs : List Loc} {x dg q pa mo nb nd un ud ov od xx xd dc dw ou : Nat} {t cn sn : Nat} (h : lwS D cB cI cJ A H0 H locs x dg q pa mo nb nd un ud ov od xx xd dc dw ou t cn sn) : lwS D cB cI cJ A H0 H locs x dg q pa mo nb nd un ud ov od xx xd dc dw ou (t + 1) cn sn := by
  obtain ⟨g, f, d, du, dv, dx, fw, o, X, fr, to, pt, zl, zs, n1, p1, n2, p2, n3, p3, th, pw, zk, ma, hg, hd9, hpb, h0, hzl, hdz, hcn, hsn, hP, hD, hS⟩ := h
  exact ⟨g, f, d, du, dv, dx, fw, o, X, fr, to, pt, zl, zs, n1, p1, n2, p2, n3, p3, th, pw, zk, ma, hg, hd9, PB_s hpb, h0, hzl, hdz, by omega, by omega, hP, hD, hS⟩
set_option maxHeartbeats 4000000 in
set_option maxRecDepth 100000 in
theorem law_sw {p : Program} {e : Env} {s : State} {m : MethodId} {below : List Frame} {meth : Method} {c : Code} (l : Launch) (hl0 : l.stackTraces = false) {b L : Nat} {xs : Nat → Int32} (D : va_G) (cB cI cJ : ClassId) (t5 : Nat) (ad : Nat → Nat) {A : Nat → Prop} (C0 : lwC p s m c b L xs D cB cI cJ t5 ad A) (hL : L ≤ 2048) {x dg q pa mo nb nd un ud ov od xx xd dc dw ou : Nat} {t : Nat} (ht : 4 * t + 4 ≤ L) (K : ∀ (ls : Array Slot) (H : Heap) (locs : List Loc) (cn sn : Nat), lv_has ls 7 [(0, .ref b), (1, .ref x), (2, .ref mo), (3, .ref ou), (4, .int (iI (((4 * t : Nat) : Int))))] → lwS D cB cI cJ A s.heap H locs x dg q pa mo nb nd un ud ov od xx xd dc dw ou (t + 1) cn sn → W p l e room_1 s m #[Value.ref b] below meth c H locs cn sn (lw_Z below #[Value.ref b] s) (F0 m 818 ls [])) {ls : Array Slot} {H : Heap} {locs : List Loc} {cn sn : Nat} (hl : lv_has ls 7 [(0, .ref b), (1, .ref x), (2, .ref mo), (3, .ref ou), (4, .int (iI (((4 * t : Nat) : Int))))]) (h : lwS D cB cI cJ A s.heap H locs x dg q pa mo nb nd un ud ov od xx xd dc dw ou t cn sn) : W p l e room_1 s m #[Value.ref b] below meth c H locs cn sn (lw_Z below #[Value.ref b] s) (F0 m 32 ls []) := by
  have C1 := C0
  obtain ⟨hx, hb, hml, hown, hts, hX, hbl, hE, hK, hA, hA2⟩ := C1
  have hbA : ¬ A b := fun h => by have := hA2 b h; omega
  have h9 := h
  obtain ⟨g, f, d, du, dv, dx, fw, o, X, fr, to, pt, zl, zs, n1, p1, n2, p2, n3, p3, th, pw, zk, ma, hg, hd9, hpb, h0, hzl, hdz, hcn, hsn, hP, hD, hS⟩ := h9
  obtain ⟨y0, hR0, hy0⟩ := iI_of (xs (4 * t + 0))
  refine lv_aload_n hx hb d_La_law_32 rfl (lv_at hl 0 rfl) ?_
  refine lv_iload hx hb d_La_law_33 (lv_at hl 4 rfl) ?_
  refine ed_sld hx hb hX hbl hbA hS (4 * t + 0) (by omega) (by omega) hL hy0 d_La_law_35 ?_
  refine lv_bipush (v := iI 15) hx hb d_La_law_36 (by decide +kernel) ?_
  refine lv_iand hx hb d_La_law_38 ?_
  obtain ⟨k, hk, hke⟩ := i15 (iI y0)
  refine ed_ti (y := iI (k : Int)) hke ?_
  have hw : k = 0 ∨ k = 1 ∨ k = 2 ∨ k = 3 ∨ k = 4 ∨ k = 5 ∨ k = 6 ∨ k = 7 ∨ k = 8 ∨ k = 9 ∨ k = 10 ∨ k = 11 ∨ 12 ≤ k := by omega
  rcases hw with rfl | rfl | rfl | rfl | rfl | rfl | rfl | rfl | rfl | rfl | rfl | rfl | hk2
  · refine lv_tableIn (tgt := 100) (off := 61) hx hb d_La_law_39 (by decide +kernel) (by decide +kernel) (by decide +kernel) rfl ?_
    exact law_0 l hl0 D cB cI cJ t5 ad C0 hL ht K hl h
  · refine lv_tableIn (tgt := 157) (off := 118) hx hb d_La_law_39 (by decide +kernel) (by decide +kernel) (by decide +kernel) rfl ?_
    exact law_1 l hl0 D cB cI cJ t5 ad C0 hL ht K hl h
  · refine lv_tableIn (tgt := 273) (off := 234) hx hb d_La_law_39 (by decide +kernel) (by decide +kernel) (by decide +kernel) rfl ?_
    exact law_2 l hl0 D cB cI cJ t5 ad C0 hL ht K hl h
  · refine lv_tableIn (tgt := 389) (off := 350) hx hb d_La_law_39 (by decide +kernel) (by decide +kernel) (by decide +kernel) rfl ?_
    exact law_3 l hl0 D cB cI cJ t5 ad C0 hL ht K hl h
  · refine lv_tableIn (tgt := 457) (off := 418) hx hb d_La_law_39 (by decide +kernel) (by decide +kernel) (by decide +kernel) rfl ?_
    exact law_4 l hl0 D cB cI cJ t5 ad C0 hL ht K hl h
  · refine lv_tableIn (tgt := 513) (off := 474) hx hb d_La_law_39 (by decide +kernel) (by decide +kernel) (by decide +kernel) rfl ?_
    exact law_5 l hl0 D cB cI cJ t5 ad C0 hL ht K hl h
  · refine lv_tableIn (tgt := 569) (off := 530) hx hb d_La_law_39 (by decide +kernel) (by decide +kernel) (by decide +kernel) rfl ?_
    exact law_6 l hl0 D cB cI cJ t5 ad C0 hL ht K hl h
  · refine lv_tableIn (tgt := 625) (off := 586) hx hb d_La_law_39 (by decide +kernel) (by decide +kernel) (by decide +kernel) rfl ?_
    exact law_7 l hl0 D cB cI cJ t5 ad C0 hL ht K hl h
  · refine lv_tableIn (tgt := 681) (off := 642) hx hb d_La_law_39 (by decide +kernel) (by decide +kernel) (by decide +kernel) rfl ?_
    exact law_8 l hl0 D cB cI cJ t5 ad C0 hL ht K hl h
  · refine lv_tableIn (tgt := 706) (off := 667) hx hb d_La_law_39 (by decide +kernel) (by decide +kernel) (by decide +kernel) rfl ?_
    exact law_9 l hl0 D cB cI cJ t5 ad C0 hL ht K hl h
  · refine lv_tableIn (tgt := 762) (off := 723) hx hb d_La_law_39 (by decide +kernel) (by decide +kernel) (by decide +kernel) rfl ?_
    exact law_10 l hl0 D cB cI cJ t5 ad C0 hL ht K hl h
  · refine lv_tableIn (tgt := 804) (off := 765) hx hb d_La_law_39 (by decide +kernel) (by decide +kernel) (by decide +kernel) rfl ?_
    exact law_11 l hl0 D cB cI cJ t5 ad C0 hL ht K hl h
  · refine lv_tableOut (tgt := 818) hx hb d_La_law_39 (by rw [iI_toInt (by omega)]; omega) rfl ?_
    exact K ls H locs cn sn hl (lwS_s h)
set_option maxHeartbeats 4000000 in
set_option maxRecDepth 100000 in
theorem law_loop {p : Program} {e : Env} {s : State} {m : MethodId} {below : List Frame} {meth : Method} {c : Code} (l : Launch) (hl0 : l.stackTraces = false) {b L : Nat} {xs : Nat → Int32} (D : va_G) (cB cI cJ : ClassId) (t5 : Nat) (ad : Nat → Nat) {A : Nat → Prop} (C0 : lwC p s m c b L xs D cB cI cJ t5 ad A) (hL : L ≤ 2048) {x dg q pa mo nb nd un ud ov od xx xd dc dw ou : Nat} (hr : meth.sig.returnType = ret) (hlocks : meth.locks = false) : ∀ (n t : Nat) (ls : Array Slot) (H : Heap) (locs : List Loc) (cn sn : Nat), L ≤ 4 * t + n → t ≤ 512 → lv_has ls 7 [(0, .ref b), (1, .ref x), (2, .ref mo), (3, .ref ou), (4, .int (iI (((4 * t : Nat) : Int))))] → lwS D cB cI cJ A s.heap H locs x dg q pa mo nb nd un ud ov od xx xd dc dw ou t cn sn → W p l e room_1 s m #[Value.ref b] below meth c H locs cn sn (lw_Z below #[Value.ref b] s) (F0 m 23 ls []) := by
  intro n
  induction n using Nat.strongRecOn with
  | ind n ih =>
    intro t ls H locs cn sn hn ht5 hl h
    have C1 := C0
    obtain ⟨hx, hb, hml, hown, hts, hX, hbl, hE, hK, hA, hA2⟩ := C1
    have hbA : ¬ A b := fun h => by have := hA2 b h; omega
    have h9 := h
    obtain ⟨g, f, d, du, dv, dx, fw, o, X, fr, to, pt, zl, zs, n1, p1, n2, p2, n3, p3, th, pw, zk, ma, hg, hd9, hpb, h0, hzl, hdz, hcn, hsn, hP, hD, hS⟩ := h9
    refine lv_iload hx hb d_La_law_23 (lv_at hl 4 rfl) ?_
    refine lv_aload_n hx hb d_La_law_25 rfl (lv_at hl 0 rfl) ?_
    refine va_slen hx hb hX hbl hbA hS d_La_law_26 ?_
    refine ed_ti (y := iI ((L : Nat) : Int)) (iI_nat L).symm ?_
    refine lv_iconst (v := iI 4) hx hb d_La_law_27 rfl ?_
    refine ed_isub hx hb d_La_law_28 ?_
    refine ed_icmp_gt (tgt := 824) hx hb d_La_law_29 rfl (by omega) (by omega) (fun h_1 => ?_) (fun h_1 => ?_)
    · refine lv_iconst (v := 1) hx hb d_La_law_824 rfl ?_
      refine va_forget (fun q hq => hA2 _ (hS.2.2 q hq)) ?_
      refine W.widen (k := 1049) (n := 27050) (by omega) (by omega) ?_
      exact lw_ret hx hb hr hlocks d_La_law_825
    · refine ed_pc (pc' := 32) rfl ?_
      refine law_sw l hl0 D cB cI cJ t5 ad C0 hL (t := t) (by omega) (fun ls H locs cn sn hl h => ?_) hl h
      refine lv_iinc (k := 4) (v := iI ((4 * (t + 1) : Nat) : Int)) hx hb d_La_law_818 hl rfl (by rw [show ((4 * (t + 1) : Nat) : Int) = ((4 * t : Nat) : Int) + 4 by omega]; exact iI_add _ _) (by decide) rfl (fun ls hl => ?_)
      have hl := lv_sub hl [1, 2, 3, 4, 0] rfl
      refine lv_goto (tgt := 23) hx hb d_La_law_821 rfl ?_
      exact ih (n - 4) (by omega) (t + 1) ls H locs cn sn (by omega) (by omega) hl h
