/-! what the bits of a finite double or float mean -/
def exE (kf x : Nat) : Nat := x / 2 ^ fbz kf - 1
/-- significand times two to the exponent, the tens apart -/
def exV (kf x : Nat) : Nat := sgz kf x * tw2 (lez kf + ((exE kf x : Nat) : Int))
theorem ex_s (kf x : Nat) : x = exE kf x * 2 ^ fbz kf + sgz kf x := by
  unfold exE sgz
  rcases Nat.lt_or_ge x (2 ^ fbz kf) with h | h
  · rw [if_pos h, Nat.div_eq_of_lt h, Nat.mod_eq_of_lt h]; simp
  · rw [if_neg (by omega)]
    have h1 := Nat.div_pos h (p2_pos (fbz kf))
    have h2 := Nat.div_add_mod' x (2 ^ fbz kf)
    have h3 : (x / 2 ^ fbz kf - 1) * 2 ^ fbz kf + 2 ^ fbz kf = x / 2 ^ fbz kf * 2 ^ fbz kf := by
      have : x / 2 ^ fbz kf = x / 2 ^ fbz kf - 1 + 1 := by omega
      rw [this, Nat.add_sub_cancel, Nat.add_mul, Nat.one_mul]
    omega
theorem ex_m (kf x : Nat) : sgz kf x < 2 ^ (fbz kf + 1) ∧ (0 < exE kf x → 2 ^ fbz kf ≤ sgz kf x) := by
  have hm : x % 2 ^ fbz kf < 2 ^ fbz kf := Nat.mod_lt _ (p2_pos _)
  unfold sgz exE
  rw [Nat.pow_succ]
  rcases Nat.lt_or_ge x (2 ^ fbz kf) with h | h
  · rw [if_pos h, Nat.div_eq_of_lt h]
    exact ⟨by omega, fun z => by omega⟩
  · rw [if_neg (by omega)]
    exact ⟨by omega, fun _ => by omega⟩
theorem ex_e {kf x : Nat} (hkf : kf < 2) (hx : x < ifz kf) : exE kf x < jz kf := by
  have hq : x / 2 ^ fbz kf < jz kf + 1 := by rw [Nat.div_lt_iff_lt_mul (p2_pos _), ← ifz_eq kf hkf]; exact hx
  have hz := fz_all kf hkf
  unfold exE
  omega
theorem ex_0 {kf x : Nat} : sgz kf x = 0 ↔ x = 0 := by
  constructor
  · intro h
    have h1 := ex_s kf x
    have h2 := (ex_m kf x).2
    rcases Nat.eq_zero_or_pos (exE kf x) with z | z
    · rw [z, h] at h1; omega
    · have := h2 z; have := p2_pos (fbz kf); omega
  · rintro rfl
    unfold sgz
    rw [if_pos (p2_pos _)]; simp
theorem tw2_le {k : Int} (hk : -1100 ≤ k ∧ k ≤ 1100) : tw2 k ≤ 10 ^ 1100 := by
  unfold tw2 tw2p
  rcases Int.le_total 0 k with z | z
  · have e : (-k).toNat = 0 := by omega
    rw [e, Nat.pow_zero, Nat.mul_one]
    exact Nat.le_trans (p2_10 _) (p10_le (by omega))
  · have e : k.toNat = 0 := by omega
    rw [e, Nat.pow_zero, Nat.one_mul]
    exact Nat.le_trans (p5_10 _) (p10_le (by omega))
theorem ex_dl {kf x : Nat} (hkf : kf < 2) (hx : x < ifz kf) : dl (exV kf x) ≤ 1200 := by
  have hz := fz_all kf hkf
  have he := ex_e hkf hx
  apply dl_bound
  have h1 : sgz kf x < 10 ^ 20 := Nat.lt_of_lt_of_le (ex_m kf x).1 (Nat.le_trans (Nat.pow_le_pow_right (by decide) (show fbz kf + 1 ≤ 53 by omega)) (by decide))
  have h2 := tw2_le (k := lez kf + ((exE kf x : Nat) : Int)) (by omega)
  have h3 : exV kf x < 10 ^ 20 * 10 ^ 1100 := Nat.lt_of_lt_of_le (Nat.mul_lt_mul_of_pos_right h1 (tw2_pos _)) (Nat.mul_le_mul_left _ h2)
  rw [← Nat.pow_add] at h3
  exact Nat.lt_of_lt_of_le h3 (p10_le (by decide))
theorem gv_small {V : Nat} (h : dl V ≤ 1200) : gvD V = rz V := by
  unfold gvD
  have : dl V - 1200 = 0 := by omega
  rw [this, Nat.pow_zero, Nat.div_one]
theorem hdb_small {V : Nat} (h : dl V ≤ 1200) : hdb V (((dl V : Nat) : Int) - 1200) = 0 := by
  unfold hdb
  have : (((dl V : Nat) : Int) - 1200).toNat = 0 := by omega
  rw [this, Nat.pow_zero, Nat.mod_one, if_pos rfl]
theorem ex_room {kf x : Nat} (hkf : kf < 2) (hx : x < ifz kf) : sgz kf x * tw2 (lez kf + ((exE kf x : Nat) : Int)) < 1000000000 ^ 306 := by
  have h := ex_dl hkf hx
  have h2 := dl_lt (exV kf x)
  rw [pB_10]
  exact Nat.lt_of_lt_of_le h2 (p10_le (by omega))
/-- the digits of a finite one are just it -/
theorem ex_exa {kf x : Nat} (hkf : kf < 2) (hx : x < ifz kf) (h0 : 0 < x) : EXA (rz (exV kf x)) (((dl (exV kf x) : Nat) : Int) + min (lez kf + ((exE kf x : Nat) : Int)) 0) kf (exE kf x) (sgz kf x) := by
  have hz := fz_all kf hkf
  have hm0 : 0 < sgz kf x := by
    rcases Nat.eq_zero_or_pos (sgz kf x) with z | z
    · have := ex_0.mp z; omega
    · exact z
  have hV : 0 < exV kf x := Nat.mul_pos hm0 (tw2_pos _)
  refine ⟨rz_pos hV, hm0, (ex_m kf x).1, (ex_m kf x).2, by rw [← ex_s]; exact hx, ?_⟩
  have hd := dl_rz hV
  have e : ((dl (exV kf x) : Nat) : Int) + min (lez kf + ((exE kf x : Nat) : Int)) 0 - ((dl (rz (exV kf x)) : Nat) : Int) = min (lez kf + ((exE kf x : Nat) : Int)) 0 + ((rt (exV kf x) : Nat) : Int) := by omega
  rw [e]
  have h1 := nP_sc (rz (exV kf x)) (rt (exV kf x)) (min (lez kf + ((exE kf x : Nat) : Int)) 0) kf
  rw [← rz_eq] at h1
  have h2 : nP (exV kf x) (min (lez kf + ((exE kf x : Nat) : Int)) 0) kf = sgz kf x * (nM (min (lez kf + ((exE kf x : Nat) : Int)) 0) * 2 ^ exE kf x) := by
    unfold nP nM exV tw2 tw2p
    generalize hk : lez kf + ((exE kf x : Nat) : Int) = k
    have e1 : (min k 0).toNat = 0 := by omega
    have e2 : (-(min k 0)).toNat = (-k).toNat := by omega
    rw [e1, e2, Nat.pow_zero, Nat.mul_one]
    have e3 : 2 ^ k.toNat * 2 ^ (-lez kf).toNat = 2 ^ (-k).toNat * 2 ^ exE kf x := by rw [← Nat.pow_add, ← Nat.pow_add]; congr 1; omega
    have e4 : 10 ^ (-k).toNat = 5 ^ (-k).toNat * 2 ^ (-k).toNat := by rw [← Nat.mul_pow]
    calc sgz kf x * (2 ^ k.toNat * 5 ^ (-k).toNat) * 2 ^ (-lez kf).toNat = (2 ^ k.toNat * 2 ^ (-lez kf).toNat) * (sgz kf x * 5 ^ (-k).toNat) := by ac_rfl
      _ = (2 ^ (-k).toNat * 2 ^ exE kf x) * (sgz kf x * 5 ^ (-k).toNat) := by rw [e3]
      _ = sgz kf x * (5 ^ (-k).toNat * 2 ^ (-k).toNat * 2 ^ exE kf x) := by ac_rfl
      _ = sgz kf x * (10 ^ (-k).toNat * 2 ^ exE kf x) := by rw [e4]
  rw [h2] at h1
  apply Nat.eq_of_mul_eq_mul_right (nM_pos (min (lez kf + ((exE kf x : Nat) : Int)) 0))
  rw [h1]; ac_rfl
section ThrowC
variable {p : Program} {l : Launch} {e : Env} {R : Room} {s : State} {m : MethodId} {args : Array Value} {below : List Frame} {meth : Method} {c : Code} {H : Heap} {locs : List Loc} {cells slots : Nat} {pc : Nat} {ls : Array Slot} {rest st0 : List Value} {a : Array Value} {A0 : Nat → Prop} {mc ms : Nat} {D : va_G} {cl : List vw_C} {ws : va_W} {cls : String} {Qc : Array Value → State → Outcome → State → Prop}
/-- a callee without cells throws: so does the caller -/
theorem c_thr (hr : vx_Run p l e R s m args below meth c H locs cells slots 1 6 (F0 m pc ls st0) rest (va_Ql (fun (_ : Int64) (_ : va_W) => False) (c_B D cl (va_A [] H.size)) (va_A [] H.size) a) (c_XC D cl (va_A [] H.size) [] cls) (va_A [] H.size))
    (hP : va_P D cl ws H) (hD : va_D A0 ws) (hS : va_S A0 s.heap H locs) (hA : ∀ q, s.heap.size ≤ q → A0 q) (htab : ∀ x ∈ c.exceptionTable.toList, False) (hlocks : meth.locks = false) (hc : cells + 1 ≤ mc) (hs : slots + 6 ≤ ms) :
    W p l e R s m args below meth c H locs cells slots (vx_MQ below Qc (c_XC D cl A0 ws cls) args s mc ms A0) (F0 m pc ls st0) := by
  have hF := va_free (wc := []) hD hS hA [] rfl
  refine vx_calll hr hS (fun q _ h => hF q h) hF (fun q _ h => hF q h) (fun E ce q9 u t H1 locs1 ht hvm hp hB hz hk hS1 hce hcv hcl => ?_) (fun r u t H1 locs1 ht hvm hp _ _ _ _ => hp.elim)
  obtain ⟨rfl, -⟩ := hB
  refine vx_out (fun x h => (htab x h).elim) hlocks hce hcv hcl (fun t9 ht9 _ => c_xc hP hD hS (by rw [ht9]; exact hz) (fun q hq => ?_)) hS1.2.2 hc hs
  rw [ht9]
  refine hk q hq ?_
  rintro (⟨k, e9, z⟩ | z)
  · simp at z
  · exact absurd hq (Nat.not_lt.mpr z)
end ThrowC
