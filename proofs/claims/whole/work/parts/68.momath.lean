/-! the reference in the class's words -/
theorem mgv_small {V : Nat} (h : dl V ≤ 1200) : gvD V = rz V := by
  unfold gvD; rw [show dl V - 1200 = 0 by omega, Nat.pow_zero, Nat.div_one]
theorem mhdb_small {V : Nat} (h : dl V ≤ 1200) : hdb V (((dl V : Nat) : Int) - 1200) = 0 := by
  unfold hdb; rw [show (((dl V : Nat) : Int) - 1200).toNat = 0 by omega, Nat.pow_zero, Nat.mod_one, if_pos rfl]
theorem mgv_rz (V : Nat) : gvD V = gvD (rz V) := by
  rcases Nat.eq_zero_or_pos V with z | z
  · rw [z, rz_0]
  have e := rz_eq V
  have e1 := dl_rz z
  unfold gvD
  by_cases h : 1200 ≤ dl (rz V)
  · have e2 : dl V - 1200 = rt V + (dl (rz V) - 1200) := by omega
    have e3 : V / 10 ^ (dl V - 1200) = rz V / 10 ^ (dl (rz V) - 1200) := by
      rw [e2, Nat.pow_add, ← Nat.div_div_eq_div_mul]
      have : rz V * 10 ^ rt V / 10 ^ rt V = rz V := Nat.mul_div_cancel _ (p10_pos _)
      rw [← e] at this; rw [this]
    rw [e3]
  · rw [show dl (rz V) - 1200 = 0 by omega, Nat.pow_zero, Nat.div_one]
    have hk : dl V - 1200 ≤ rt V := by omega
    have e2 : rt V = dl V - 1200 + (rt V - (dl V - 1200)) := by omega
    have e3 : V / 10 ^ (dl V - 1200) = rz V * 10 ^ (rt V - (dl V - 1200)) := by
      have : rz V * 10 ^ rt V / 10 ^ (dl V - 1200) = rz V * 10 ^ (rt V - (dl V - 1200)) := by
        rw [show 10 ^ rt V = 10 ^ (dl V - 1200) * 10 ^ (rt V - (dl V - 1200)) by rw [← Nat.pow_add, ← e2], Nat.mul_left_comm, Nat.mul_div_cancel_left _ (p10_pos _)]
      rw [← e] at this; exact this
    rw [e3, rz_mul]
theorem hdb_rz (V : Nat) : hdb V (((dl V : Nat) : Int) - 1200) = 1 ↔ 1200 < dl (rz V) := by
  rcases Nat.eq_zero_or_pos V with z | z
  · rw [z, rz_0, dl_0]; unfold hdb; simp
  have e := rz_eq V
  have e1 := dl_rz z
  have hl := rz_last z
  have ht : (((dl V : Nat) : Int) - 1200).toNat = dl V - 1200 := by omega
  unfold hdb
  rw [ht]
  constructor
  · intro h
    rcases Nat.lt_or_ge 1200 (dl (rz V)) with y | y
    · exact y
    · exfalso
      have : V % 10 ^ (dl V - 1200) = 0 := by
        have e2 : rt V = dl V - 1200 + (rt V - (dl V - 1200)) := by omega
        have : rz V * 10 ^ rt V % 10 ^ (dl V - 1200) = 0 := by
          rw [show 10 ^ rt V = 10 ^ (dl V - 1200) * 10 ^ (rt V - (dl V - 1200)) by rw [← Nat.pow_add, ← e2], Nat.mul_left_comm, Nat.mul_mod_right]
        rw [← e] at this; exact this
      rw [if_pos this] at h; omega
  · intro h
    rw [if_neg]
    intro hz
    have e2 : dl V - 1200 = rt V + (dl V - 1200 - rt V - 1 + 1) := by omega
    have d1 : 10 ^ (rt V + 1) ∣ V := Nat.dvd_trans (Nat.pow_dvd_pow 10 (by omega)) (Nat.dvd_of_mod_eq_zero hz)
    rw [Nat.pow_succ] at d1
    have d2 : 10 ^ rt V * 10 ∣ 10 ^ rt V * rz V := by rw [Nat.mul_comm (10 ^ rt V) (rz V), ← e]; exact d1
    have d3 := Nat.dvd_of_mul_dvd_mul_left (p10_pos _) d2
    exact hl (Nat.mod_eq_zero_of_dvd d3)
theorem gv_cut {d : Nat → Int32} {R : Nat} (h : rw_ok d R) (hR : 1200 < dl R) : dg_ok d 1200 (R / 10 ^ (dl R - 1200)) ∧ dl (R / 10 ^ (dl R - 1200)) = 1200 := by
  refine ⟨?_, by rw [dl_div]; omega⟩
  exact dg_pre h.2 (by omega)
theorem sh_41 {X : Nat} {k : Int} (h : dl X ≤ 1200) (hk : -2200 ≤ k ∧ k ≤ 2200) : dl (X * tw2 k) ≤ 4100 := by
  have := sh_room h hk
  rw [pB_10] at this
  have := dl_bound this
  omega
theorem mgv_le (V : Nat) : dl (gvD V) ≤ 1200 := by
  unfold gvD
  refine Nat.le_trans (dl_mono (rz_le _)) ?_
  rw [dl_div]; omega
theorem up_pt {Y j : Nat} (h : dl Y = j) (pt : Int) : pt + (((dl (Y + 1) : Nat) : Int) - ((dl Y : Nat) : Int)) = (if Y + 1 = 10 ^ j then pt + 1 else pt) ∧ dl (rz (Y + 1)) ≤ j + 1 ∧ dl (rz (Y + 1)) ≤ max 1 j := by
  have hm := dl_mono (rz_le (Y + 1))
  by_cases z : Y + 1 = 10 ^ j
  · rw [if_pos z]
    have e : dl (Y + 1) = j + 1 := by rw [z]; exact dl_p10 j
    refine ⟨by omega, by omega, ?_⟩
    rw [z, rz_p10]
    have : dl 1 = 1 := dl_p10 0
    omega
  · rw [if_neg z]
    have h1 := dl_lt Y
    rw [h] at h1
    have h2 := dl_bound (show Y + 1 < 10 ^ j by omega)
    have h3 := dl_mono (show Y ≤ Y + 1 by omega)
    exact ⟨by omega, by omega, by omega⟩
