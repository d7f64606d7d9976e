/-! rows of the law and its wrappers -/
theorem lN_of (v : Int64) : ∃ n : Nat, n < 2 ^ 64 ∧ v = lN n := by
  refine ⟨v.toUInt64.toNat, v.toUInt64.toNat_lt, ?_⟩
  obtain ⟨z, hz, rfl⟩ := jI_of v
  rw [← jI_nat]
  apply Int64.toInt_inj.mp
  have h1 : (jI z).toUInt64.toNat = (z % 18446744073709551616).toNat := by
    have h2 : ((jI z).toUInt64.toNat : Int) = z % 18446744073709551616 := by
      show (((Int64.ofInt z).toBitVec.toNat : Nat) : Int) = _
      have : (Int64.ofInt z).toBitVec = BitVec.ofInt 64 z := rfl
      rw [this, BitVec.toNat_ofInt]
      omega
    omega
  rw [h1]
  show (Int64.ofInt z).toInt = (Int64.ofInt _).toInt
  rw [Int64.toInt_ofInt, Int64.toInt_ofInt]
  have h3 : (((z % 18446744073709551616).toNat : Nat) : Int) = z % 18446744073709551616 := Int.toNat_of_nonneg (by omega)
  rw [h3]
  exact (Int.emod_bmod (x := z) (n := 18446744073709551616)).symm
theorem gSW {X : Cond} {own : String} {i : Nat} {y : MethodName} {cc : ByteArray} {n : Nat} {r : Option FieldType} {hh : List (Nat × Nat × Nat × Nat)} (h1 : Cond.methodLink own i y ∈ gw) (h2 : Cond.static y ∈ gw) (h4 : Cond.initialized y.cls ∈ gw) (h5 : Cond.codeWith y cc n r hh ∈ gw) : GoodIn (X :: gw) (va_wsS own i y (Cond.codeWith y cc n r hh :: gw)) := gw_good (by
  intro w hw
  unfold va_wsS at hw
  rcases List.mem_append.mp hw with hw | hw
  · simp only [List.mem_cons, List.not_mem_nil, or_false] at hw
    rcases hw with rfl | rfl | rfl
    · exact h1
    · exact h2
    · exact h4
  · rcases List.mem_cons.mp hw with rfl | hw
    · exact h5
    · exact hw)
section LwRows
variable {p : Program} {l : Launch} {e : Env} {R : Room} {s : State} {m : MethodId} {args : Array Value} {below : List Frame} {meth : Method} {c : Code} {H : Heap} {locs : List Loc} {cells slots : Nat} {Q : State → Prop} {cc : ByteArray} {pc : Nat} {ls : Array Slot} {rest st0 : List Value} {a : Array Value} {D : va_G} {cl : List vw_C} {tys : List (ClassId × FieldType)} {ws wc wr : va_W} {A A0 : Nat → Prop} {H0 : Heap}
theorem c_ft {cls : String} (hr : vx_Run p l e R s m args below meth c H locs cells slots 1 6 (F0 m pc ls st0) rest (va_Qi (fun (_ : Int32) (_ : va_W) => False) (c_B D cl (va_A wc H.size)) (va_A wc H.size) a) (c_XC D cl (va_A wc H.size) wc cls) (va_A wc H.size))
    (hP : va_P D cl ws H) (hD : va_D A0 ws) (hS : va_S A0 H0 H locs) (hA : ∀ q, H0.size ≤ q → A0 q) (isC isR : List Nat) (hC : isC.map (fun i => ws[i]?) = wc.map some) (hR : isR.map (fun i => ws[i]?) = wr.map some) (hn2 : va_nd isR = true) (hdis : ∀ i ∈ isR, i ∉ isC)
    (kk : ∀ (ce : Cell) (q9 : Addr) (H1 : Heap) (locs1 : List Loc), va_P D cl (wr ++ wc) H1 → va_D A0 (wr ++ wc) → va_S A0 H0 H1 locs1 → H1[q9]? = some ce → ce.vm = .none → s.vm.findClass cls = some ce.cls → vx_W p l e R s m args below meth c H1 locs1 (cells + 1) (slots + 6) Q (F0 m pc ls rest) q9) : W p l e R s m args below meth c H locs cells slots Q (F0 m pc ls st0) := by
  have hF := va_free (wc := wc) hD hS hA isC hC
  refine vx_calli hr hS (fun q _ h => hF q h) hF (fun q _ h => hF q h) (fun E ce q9 u t H1 locs1 ht hvm hp hB hz hk hS1 h9 hv9 hc9 => ?_) (fun r u t H1 locs1 ht hvm hp => hp.elim)
  obtain ⟨hE9, hP1, hD1⟩ := hB
  subst hE9
  subst hp
  rw [ht] at hP1
  obtain ⟨hP2, hD2⟩ := va_join hP hD isC isR hC hR hn2 hdis hk hF hP1 hD1
  exact kk ce q9 H1 locs1 hP2 hD2 hS1 h9 hv9 hc9
theorem ed_sld (hx : p.tables.exec = Jvm.exec) (hb : c.code = cc) {b L : Nat} {xs : Nat → Int32} (hX : va_X b L xs s H0) (hbl : b < H0.size) (hbA : ¬ A b) (hS : va_S A H0 H locs) {z y : Int} (j : Nat) (hj : z = (j : Int)) (hjL : j < L) (hL : L ≤ 2048) (hy : xs j = iI y) (hdg : decode cc pc = .ok (.iaload, 1))
    (kk : W p l e R s m args below meth c H locs cells slots Q (F0 m (pc + 1) ls (.int (iI y) :: rest))) : W p l e R s m args below meth c H locs cells slots Q (F0 m pc ls (.int (iI z) :: .ref b :: rest)) := by
  subst hj
  refine va_sld hx hb hX hbl hbA hS (iI_in (by omega) (by omega) (by omega)) hdg ?_
  rw [iI_clampN (by omega), hy]
  exact kk
theorem ed_lald0 (hx : p.tables.exec = Jvm.exec) (hb : c.code = cc) (hK : va_K D cl tys s) (hP : va_P D cl ws H) (q0 t0 : Nat) {r : Nat} {cA : ClassId} {f : Nat → Int64} (ha : ws[q0]? = some (r, .inl (cA, 1, .inr (.inl f)))) (ht : tys[t0]? = some (cA, .long)) {v : Int64} (hv : f 0 = v) (hdg : decode cc pc = .ok (.laload, 1))
    (kk : W p l e R s m args below meth c H locs cells slots Q (F0 m (pc + 1) ls (.long v :: rest))) : W p l e R s m args below meth c H locs cells slots Q (F0 m pc ls (.int (iI 0) :: .ref r :: rest)) := by
  refine va_lald hx hb hK hP q0 t0 ha ht (iI_in (by omega) (by omega) (by omega)) hdg ?_
  rw [show (iI 0).toNatClampNeg = 0 from iI_clampN (n := 0) (by omega), hv]
  exact kk
theorem ed_last0 (hx : p.tables.exec = Jvm.exec) (hb : c.code = cc) (hK : va_K D cl tys s) (hP : va_P D cl ws H) (hD : va_D A ws) (hS : va_S A H0 H locs) (q0 t0 : Nat) {r : Nat} {cA : ClassId} {f : Nat → Int64} (ha : ws[q0]? = some (r, .inl (cA, 1, .inr (.inl f)))) (ht : tys[t0]? = some (cA, .long)) {v : Int64} (hdg : decode cc pc = .ok (.lastore, 1))
    (kk : ∀ (H1 : Heap) (locs1 : List Loc) (f' : Nat → Int64), f' 0 = v → va_P D cl (ws.set q0 (r, .inl (cA, 1, .inr (.inl f')))) H1 → va_D A (ws.set q0 (r, .inl (cA, 1, .inr (.inl f')))) → va_S A H0 H1 locs1 → W p l e R s m args below meth c H1 locs1 cells slots Q (F0 m (pc + 1) ls rest)) : W p l e R s m args below meth c H locs cells slots Q (F0 m pc ls (.long v :: .int (iI 0) :: .ref r :: rest)) := by
  refine va_last hx hb hK hP hD hS q0 t0 ha ht (iI_in (by omega) (by omega) (by omega)) hdg (fun H1 locs1 h1 h2 h3 => ?_)
  refine kk H1 locs1 _ ?_ h1 h2 h3
  rw [show (iI 0).toNatClampNeg = 0 from iI_clampN (n := 0) (by omega)]
  simp [vp_updL]
theorem ed_same (hx : p.tables.exec = Jvm.exec) (hb : c.code = cc) {v : Int32} {off : Int} {tgt : Nat} (hdg : decode cc pc = .ok (.if_icmp .eq off, 3)) (ht : (pc : Int) + off = (tgt : Int)) (kt : W p l e R s m args below meth c H locs cells slots Q (F0 m tgt ls rest)) : W p l e R s m args below meth c H locs cells slots Q (F0 m pc ls (.int v :: .int v :: rest)) := by
  obtain ⟨z, hz, rfl⟩ := iI_of v
  exact ed_icmp_eq hx hb hdg ht hz hz (fun _ => kt) (fun h => absurd rfl h)
theorem ed_lsame (hx : p.tables.exec = Jvm.exec) (hb : c.code = cc) {v : Int64} {off : Int} {tgt : Nat} (hd1 : decode cc pc = .ok (.lcmp, 1)) (hd2 : decode cc (pc + 1) = .ok (.ifCond .eq off, 3)) (ht : ((pc + 1 : Nat) : Int) + off = (tgt : Int)) (kt : W p l e R s m args below meth c H locs cells slots Q (F0 m tgt ls rest)) : W p l e R s m args below meth c H locs cells slots Q (F0 m pc ls (.long v :: .long v :: rest)) := by
  obtain ⟨z, hz, rfl⟩ := jI_of v
  exact ed_lif_eq hx hb hd1 hd2 ht hz hz (fun _ => kt) (fun h => absurd rfl h)
end LwRows
