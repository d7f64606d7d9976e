/-! rows: raise, at, compare -/
theorem ra_1 {Y j : Nat} (hj : j = dl Y) (h : Y % 10 ^ j = 10 ^ j - 1) : Y + 1 = 10 ^ dl Y := by
  subst hj
  rw [Nat.mod_eq_of_lt (dl_lt Y)] at h
  have := p10_pos (dl Y); omega
theorem ra_2 {Y j : Nat} (h : Y % 10 ^ j = 10 ^ j - 1) : Y + 1 = (Y / 10 ^ j + 1) * 10 ^ j := by
  have h1 := Nat.div_add_mod Y (10 ^ j)
  have h2 := p10_pos j
  rw [Nat.add_mul, Nat.one_mul, Nat.mul_comm (Y / 10 ^ j)]
  omega
theorem ra_3 {Z : Nat} (hZ : 0 < Z) (h : Z % 10 < 9) : dl (Z + 1) = dl Z := by
  rw [dl_s hZ, dl_s (show 0 < Z + 1 by omega), show (Z + 1) / 10 = Z / 10 by omega]
theorem ra_4 {d : Nat → Int32} {n Z : Nat} (h : dg_ok d n Z) (hn : 0 < n) (h9 : Z % 10 < 9) : dg_ok (upd d (n - 1) (iI ((Z % 10 + 1 : Nat) : Int))) n (Z + 1) := by
  intro i hi
  by_cases e : i = n - 1
  · subst e
    rw [pk_us, show n - 1 - (n - 1) = 0 by omega, Nat.pow_zero, Nat.div_one]
    congr 2; omega
  · rw [pk_un e, h i hi]
    have e1 : n - 1 - i = n - 2 - i + 1 := by omega
    rw [e1, Nat.pow_succ', ← Nat.div_div_eq_div_mul, ← Nat.div_div_eq_div_mul, show (Z + 1) / 10 = Z / 10 by omega]
theorem ra_5 {Y j : Nat} (h : Y % 10 ^ j = 10 ^ j - 1) (h9 : Y / 10 ^ j % 10 = 9) : Y % 10 ^ (j + 1) = 10 ^ (j + 1) - 1 := by
  rw [nb_mod 10 Y j, h, h9, Nat.pow_succ]
  have := p10_pos j; omega
theorem ra_6 {Y j : Nat} (hj : j < dl Y) (h : Y % 10 ^ j = 10 ^ j - 1) (h9 : ¬ Y / 10 ^ j % 10 = 9) :
    rz (Y + 1) = Y / 10 ^ j + 1 ∧ dl (Y / 10 ^ j + 1) = dl Y - j ∧ dl (Y + 1) = dl Y := by
  have hm := Nat.mod_lt (Y / 10 ^ j) (show 0 < 10 by decide)
  have hZ : 0 < Y / 10 ^ j := by
    rcases Nat.eq_zero_or_pos (Y / 10 ^ j) with z | z
    · have := dl_div Y j; rw [z, dl_0] at this; omega
    · exact z
  have e2 := ra_2 h
  have e3 : dl (Y / 10 ^ j + 1) = dl Y - j := by rw [ra_3 hZ (by omega), dl_div]
  refine ⟨?_, e3, ?_⟩
  · rw [e2, rz_mul, rz_n (by omega)]
  · rw [e2, dl_mul (by omega), e3]; omega
theorem dl_p10 (k : Nat) : dl (10 ^ k) = k + 1 := by
  have h1 : dl 1 = 1 := by rw [dl_s (by decide), show 1 / 10 = 0 by decide, dl_0]
  rw [← Nat.one_mul (10 ^ k), dl_mul (by decide), h1]; omega
theorem at_1 {X a b : Nat} (h : dl X + a ≤ b) : X * 10 ^ a / 10 ^ b % 10 = 0 := by
  have h1 : X * 10 ^ a < 10 ^ b := by
    refine Nat.lt_of_lt_of_le ?_ (p10_le h)
    rw [Nat.pow_add]; exact Nat.mul_lt_mul_of_pos_right (dl_lt X) (p10_pos a)
  rw [Nat.div_eq_of_lt h1]
theorem at_2 {X a b : Nat} (h : b < a) : X * 10 ^ a / 10 ^ b % 10 = 0 := by
  have e : a = b + (a - b - 1 + 1) := by omega
  rw [e, Nat.pow_add, ← Nat.mul_assoc, Nat.mul_right_comm, Nat.mul_div_cancel _ (p10_pos b), Nat.pow_succ, ← Nat.mul_assoc, Nat.mul_mod_left]
theorem at_3 {X a b c : Nat} (h : b = a + c) : X * 10 ^ a / 10 ^ b % 10 = X / 10 ^ c % 10 := by
  rw [h, Nat.pow_add, Nat.mul_comm X, Nat.mul_div_mul_left _ _ (p10_pos a)]
theorem cmp_s (N k : Nat) : N / 10 ^ k = 10 * (N / 10 ^ (k + 1)) + N / 10 ^ k % 10 := by
  rw [Nat.pow_succ, ← Nat.div_div_eq_div_mul]; omega
theorem cmp_eq {N N' k : Nat} (h : N / 10 ^ (k + 1) = N' / 10 ^ (k + 1)) (hd : N / 10 ^ k % 10 = N' / 10 ^ k % 10) : N / 10 ^ k = N' / 10 ^ k := by
  rw [cmp_s N k, cmp_s N' k, h, hd]
theorem cmp_lt {N N' k : Nat} (h : N / 10 ^ (k + 1) = N' / 10 ^ (k + 1)) (hd : N / 10 ^ k % 10 < N' / 10 ^ k % 10) : N < N' := by
  have h1 := cmp_s N k; have h2 := cmp_s N' k
  have h3 : N / 10 ^ k < N' / 10 ^ k := by omega
  exact Nat.lt_of_div_lt_div h3
theorem cmp_0 {X a b : Nat} (h : dl X + a ≤ b) : X * 10 ^ a / 10 ^ b = 0 := by
  apply Nat.div_eq_of_lt
  refine Nat.lt_of_lt_of_le ?_ (p10_le h)
  rw [Nat.pow_add]; exact Nat.mul_lt_mul_of_pos_right (dl_lt X) (p10_pos a)
theorem rcp_ok {d d2 : Nat → Int32} {X : Nat} (h : rw_ok d2 X) : rw_ok (va_cpy d2 d 0 0 (dl X)) X := by
  refine ⟨h.1, fun i hi => ?_⟩
  rw [pk_cpy_in (by omega) (by omega), show 0 + (i - 0) = i by omega]
  exact h.2 i hi
