/-! the reference's Decimal: one number T, its words in base 1000000000, the first word the highest -/
def wq (T k : Nat) : Nat := T / 1000000000 ^ (464 - k) % 1000000000
def wa_ok (f : Nat → Int32) (T : Nat) : Prop := ∀ k, k < 465 → f k = iI ((wq T k : Nat) : Int)
def de_ok (f : Nat → Int32) (fr to T : Nat) : Prop := fr < to ∧ to ≤ 400 ∧ 1000000000 ^ (464 - fr) ≤ T ∧ T < 1000000000 ^ (465 - fr) ∧ T % 1000000000 ^ (465 - to) = 0 ∧ wa_ok f T
def dz_ok (f : Nat → Int32) (fr to : Nat) : Prop := fr ≤ to ∧ to ≤ 400 ∧ ∀ k, k < 465 → (k < fr ∨ to ≤ k) → f k = iI 0
theorem wq_lt (T k : Nat) : wq T k < 1000000000 := Nat.mod_lt _ (by decide)
theorem pB_le {a b : Nat} (h : a ≤ b) : 1000000000 ^ a ≤ 1000000000 ^ b := Nat.pow_le_pow_right (by decide) h
theorem pB_dvd {a b T : Nat} (h : a ≤ b) (hT : T % 1000000000 ^ b = 0) : T % 1000000000 ^ a = 0 :=
  Nat.mod_eq_zero_of_dvd (Nat.dvd_trans (Nat.pow_dvd_pow _ h) (Nat.dvd_of_mod_eq_zero hT))
theorem wq_hi {T fr k : Nat} (h : T < 1000000000 ^ (465 - fr)) (hk : k < fr) (hf : fr ≤ 465) : wq T k = 0 := by
  unfold wq
  rw [Nat.div_eq_of_lt (Nat.lt_of_lt_of_le h (pB_le (by omega)))]
theorem wq_lo {T to k : Nat} (h : T % 1000000000 ^ (465 - to) = 0) (hk : to ≤ k) (hk2 : k < 465) : wq T k = 0 := by
  unfold wq
  have h2 : T % 1000000000 ^ (464 - k + 1) = 0 := pB_dvd (by omega) h
  rw [nb_mod] at h2
  have h3 := pB_pos (464 - k)
  rcases Nat.eq_zero_or_pos (T / 1000000000 ^ (464 - k) % 1000000000) with z | z
  · exact z
  · have := Nat.mul_pos h3 z; omega
theorem de_dz {f : Nat → Int32} {fr to T : Nat} (h : de_ok f fr to T) : dz_ok f fr to := by
  obtain ⟨h1, h2, h3, h4, h5, h6⟩ := h
  refine ⟨by omega, h2, fun k hk hz => ?_⟩
  rw [h6 k hk]
  rcases hz with z | z
  · rw [wq_hi h4 z (by omega)]; rfl
  · rw [wq_lo h5 z hk]; rfl
theorem wq_s {T k : Nat} (hk : k < 464) : wq T k = T / 1000000000 ^ (464 - (k + 1)) / 1000000000 % 1000000000 := by
  unfold wq
  rw [Nat.div_div_eq_div_mul, ← Nat.pow_succ, show (464 - (k + 1)).succ = 464 - k by omega]
/-- half -/
theorem hf_w {T k : Nat} (hk : k < 465) : (wq T k + T / 1000000000 ^ (465 - k) % 2 * 1000000000) / 2 = wq (T / 2) k := by
  unfold wq
  have e1 : T / 1000000000 ^ (465 - k) = T / 1000000000 ^ (464 - k) / 1000000000 := by rw [Nat.div_div_eq_div_mul, ← Nat.pow_succ, show (464 - k).succ = 465 - k by omega]
  have e2 : T / 2 / 1000000000 ^ (464 - k) = T / 1000000000 ^ (464 - k) / 2 := by rw [Nat.div_div_eq_div_mul, Nat.div_div_eq_div_mul, Nat.mul_comm]
  rw [e1, e2]
  generalize T / 1000000000 ^ (464 - k) = Z
  omega
theorem hf_r {T k : Nat} (hk : k < 465) : wq T k % 2 = T / 1000000000 ^ (465 - (k + 1)) % 2 := by
  unfold wq
  rw [show 465 - (k + 1) = 464 - k by omega]
  omega
theorem hf_even {T to : Nat} (h : T % 1000000000 ^ (465 - to) = 0) (h2 : T / 1000000000 ^ (465 - to) % 2 = 0) : T / 2 % 1000000000 ^ (465 - to) = 0 := by
  obtain ⟨q, hq⟩ := Nat.dvd_of_mod_eq_zero h
  have hp := pB_pos (465 - to)
  rw [hq, Nat.mul_div_cancel_left _ hp] at h2
  obtain ⟨r, hr⟩ : ∃ r, q = 2 * r := ⟨q / 2, by omega⟩
  rw [hq, hr, Nat.mul_left_comm, Nat.mul_div_cancel_left _ (by decide), Nat.mul_mod_right]
theorem hf_odd {T to : Nat} (ht : to < 465) (h : T % 1000000000 ^ (465 - to) = 0) (h2 : T / 1000000000 ^ (465 - to) % 2 = 1) : T / 2 % 1000000000 ^ (465 - (to + 1)) = 0 ∧ wq (T / 2) to = 500000000 := by
  obtain ⟨q, hq⟩ := Nat.dvd_of_mod_eq_zero h
  have hp := pB_pos (465 - to)
  have hp2 := pB_pos (464 - to)
  rw [hq, Nat.mul_div_cancel_left _ hp] at h2
  have e : 1000000000 ^ (465 - to) = 1000000000 ^ (464 - to) * 1000000000 := by rw [← Nat.pow_succ]; congr 1; omega
  have e2 : T / 2 = 1000000000 ^ (464 - to) * (500000000 * q) := by
    rw [hq, e, show 1000000000 ^ (464 - to) * 1000000000 * q = 2 * (1000000000 ^ (464 - to) * (500000000 * q)) by
      rw [Nat.mul_assoc, Nat.mul_left_comm 2, ← Nat.mul_assoc 2 500000000]]
    exact Nat.mul_div_cancel_left _ (by decide)
  refine ⟨by rw [e2, show 465 - (to + 1) = 464 - to by omega, Nat.mul_mod_right], ?_⟩
  unfold wq
  rw [e2, Nat.mul_div_cancel_left _ hp2]
  omega
theorem wq_top {T fr : Nat} (hfr : fr ≤ 464) (h : T < 1000000000 ^ (465 - fr)) : wq T fr = T / 1000000000 ^ (464 - fr) := by
  unfold wq
  apply Nat.mod_eq_of_lt
  rw [Nat.div_lt_iff_lt_mul (pB_pos _), Nat.mul_comm, ← Nat.pow_succ, show (464 - fr).succ = 465 - fr by omega]
  exact h
theorem tp_z {T fr : Nat} (hfr : fr ≤ 464) (h : T < 1000000000 ^ (465 - fr)) (hz : wq T fr = 0) : T < 1000000000 ^ (465 - (fr + 1)) := by
  rw [wq_top hfr h] at hz
  rcases Nat.div_eq_zero_iff.mp hz with z | z
  · exact absurd z (Nat.ne_of_gt (pB_pos _))
  · rw [show 465 - (fr + 1) = 464 - fr by omega]; exact z
theorem tp_n {T fr : Nat} (hfr : fr ≤ 464) (h : T < 1000000000 ^ (465 - fr)) (hz : ¬ wq T fr = 0) : 1000000000 ^ (464 - fr) ≤ T := by
  rw [wq_top hfr h] at hz
  rcases Nat.lt_or_ge T (1000000000 ^ (464 - fr)) with z | z
  · rw [Nat.div_eq_of_lt z] at hz; omega
  · exact z
theorem tp_lt {T fr to : Nat} (hT : 0 < T) (hto : to ≤ 465) (h : T < 1000000000 ^ (465 - fr)) (hm : T % 1000000000 ^ (465 - to) = 0) : fr < to := by
  rcases Nat.lt_or_ge fr to with z | z
  · exact z
  · exfalso
    have h1 : T < 1000000000 ^ (465 - to) := Nat.lt_of_lt_of_le h (pB_le (by omega))
    rw [Nat.mod_eq_of_lt h1] at hm
    omega
/-- the lowest word -/
theorem lw_z {T to : Nat} (hto : 0 < to ∧ to ≤ 465) (hm : T % 1000000000 ^ (465 - to) = 0) (hz : wq T (to - 1) = 0) : T % 1000000000 ^ (465 - (to - 1)) = 0 := by
  have e : 465 - (to - 1) = 465 - to + 1 := by omega
  unfold wq at hz
  rw [show 464 - (to - 1) = 465 - to by omega] at hz
  rw [e, nb_mod, hm, hz, Nat.mul_zero]
/-- twice -/
theorem tw_hi {T fr k : Nat} (h : T < 1000000000 ^ (465 - fr)) (hk : k + 1 < fr) (hf : fr ≤ 465) : wq (2 * T) k = 0 := by
  unfold wq
  rw [Nat.div_eq_of_lt]
  refine Nat.lt_of_lt_of_le ?_ (pB_le (show 465 - fr + 1 ≤ 464 - k by omega))
  rw [Nat.pow_succ]; omega
theorem tw_w {T k : Nat} (hk : k < 465) : (2 * wq T k + T % 1000000000 ^ (464 - k) * 2 / 1000000000 ^ (464 - k)) % 1000000000 = wq (2 * T) k := by
  have h := tm_digit (b := 1000000000) (by decide) T 2 (464 - k)
  unfold wq
  rw [Nat.mul_comm 2 (T / 1000000000 ^ (464 - k) % 1000000000), Nat.mul_comm 2 T]
  exact h
theorem tw_c {T k : Nat} (hk : k < 465) : (2 * wq T k + T % 1000000000 ^ (464 - k) * 2 / 1000000000 ^ (464 - k)) / 1000000000 = T % 1000000000 ^ (465 - k) * 2 / 1000000000 ^ (465 - k) := by
  have h := tm_carry (b := 1000000000) (by decide) T 2 (464 - k)
  unfold wq
  rw [Nat.mul_comm 2 (T / 1000000000 ^ (464 - k) % 1000000000), h, show 464 - k + 1 = 465 - k by omega]
theorem tw_s (T k : Nat) : T % 1000000000 ^ k * 2 / 1000000000 ^ k < 2 := tm_small (by decide) (by decide)
theorem tw_m {T to : Nat} (h : T % 1000000000 ^ to = 0) : 2 * T % 1000000000 ^ to = 0 := by
  obtain ⟨q, hq⟩ := Nat.dvd_of_mod_eq_zero h
  rw [hq, Nat.mul_left_comm, Nat.mul_mod_right]
theorem tw_t {T fr : Nat} (hfr : 0 < fr ∧ fr ≤ 464) (h : T < 1000000000 ^ (465 - fr)) : wq (2 * T) (fr - 1) = T % 1000000000 ^ (465 - fr) * 2 / 1000000000 ^ (465 - fr) := by
  have h1 := tw_s T (465 - fr)
  rw [Nat.mod_eq_of_lt h] at h1 ⊢
  unfold wq
  rw [show 464 - (fr - 1) = 465 - fr by omega, Nat.mul_comm 2 T, Nat.mod_eq_of_lt (by omega)]
theorem tw_f {T fr : Nat} (hfr : 0 < fr ∧ fr ≤ 464) (h3 : 1000000000 ^ (464 - fr) ≤ T) (h : T < 1000000000 ^ (465 - fr)) (hc : T % 1000000000 ^ (465 - fr) * 2 / 1000000000 ^ (465 - fr) = 1) : 1000000000 ^ (464 - (fr - 1)) ≤ 2 * T ∧ 2 * T < 1000000000 ^ (465 - (fr - 1)) := by
  rw [Nat.mod_eq_of_lt h] at hc
  rw [show 464 - (fr - 1) = 465 - fr by omega, show 465 - (fr - 1) = 465 - fr + 1 by omega, Nat.pow_succ]
  have hp := pB_pos (465 - fr)
  refine ⟨?_, by omega⟩
  rcases Nat.lt_or_ge (T * 2) (1000000000 ^ (465 - fr)) with z | z
  · rw [Nat.div_eq_of_lt z] at hc; omega
  · omega
theorem tw_g {T fr : Nat} (h3 : 1000000000 ^ (464 - fr) ≤ T) (h : T < 1000000000 ^ (465 - fr)) (hc : T % 1000000000 ^ (465 - fr) * 2 / 1000000000 ^ (465 - fr) = 0) : 1000000000 ^ (464 - fr) ≤ 2 * T ∧ 2 * T < 1000000000 ^ (465 - fr) := by
  rw [Nat.mod_eq_of_lt h] at hc
  refine ⟨by omega, ?_⟩
  rcases Nat.div_eq_zero_iff.mp hc with z | z
  · exact absurd z (Nat.ne_of_gt (pB_pos _))
  · omega
/-- add -/
theorem ad_w {T P dg j i : Nat} (hP : P = 9 * j + i) (hi : i ≤ 8) (hd : dg ≤ 9) (hT : T % 10 ^ (P + 1) = 0) : (T + dg * 10 ^ P) / 1000000000 ^ j % 1000000000 = T / 1000000000 ^ j % 1000000000 + dg * 10 ^ i := by
  obtain ⟨q, hq⟩ := Nat.dvd_of_mod_eq_zero hT
  have e1 : 10 ^ P = 1000000000 ^ j * 10 ^ i := by rw [pB_10, ← Nat.pow_add, hP]
  have e2 : T = 1000000000 ^ j * (10 ^ (i + 1) * q) := by rw [hq, Nat.pow_succ, e1, Nat.pow_succ]; ac_rfl
  have e3 : T + dg * 10 ^ P = 1000000000 ^ j * (10 ^ (i + 1) * q + dg * 10 ^ i) := by rw [Nat.mul_add, ← e2, e1]; ac_rfl
  rw [e3, e2, Nat.mul_div_cancel_left _ (pB_pos j), Nat.mul_div_cancel_left _ (pB_pos j)]
  have e4 : 1000000000 = 10 ^ (i + 1) * 10 ^ (8 - i) := by rw [← Nat.pow_add, show i + 1 + (8 - i) = 9 by omega]
  have e5 : 10 ^ (i + 1) * q % 1000000000 = 10 ^ (i + 1) * (q % 10 ^ (8 - i)) := by rw [e4, Nat.mul_mod_mul_left]
  have h6 : q % 10 ^ (8 - i) < 10 ^ (8 - i) := Nat.mod_lt _ (p10_pos _)
  have h7 : 10 ^ (i + 1) * (q % 10 ^ (8 - i)) + 10 ^ (i + 1) ≤ 1000000000 := by
    have : 10 ^ (i + 1) * (q % 10 ^ (8 - i) + 1) ≤ 10 ^ (i + 1) * 10 ^ (8 - i) := Nat.mul_le_mul_left _ h6
    rw [← e4, Nat.mul_add, Nat.mul_one] at this
    exact this
  have h8 : dg * 10 ^ i < 10 ^ (i + 1) := by
    have : dg * 10 ^ i ≤ 9 * 10 ^ i := Nat.mul_le_mul_right _ hd
    have hp := p10_pos i
    rw [Nat.pow_succ]; omega
  rw [Nat.add_mod, e5, Nat.mod_eq_of_lt (show dg * 10 ^ i < 1000000000 by omega), Nat.mod_eq_of_lt (by omega)]
theorem ad_n {T P dg j i j' : Nat} (hP : P = 9 * j + i) (hi : i ≤ 8) (hd : dg ≤ 9) (hT : T % 10 ^ (P + 1) = 0) (hj : ¬ j' = j) : (T + dg * 10 ^ P) / 1000000000 ^ j' % 1000000000 = T / 1000000000 ^ j' % 1000000000 := by
  rcases Nat.lt_or_ge j j' with z | z
  · obtain ⟨q, hq⟩ := Nat.dvd_of_mod_eq_zero hT
    have e1 : 1000000000 ^ j' = 10 ^ (P + 1) * 10 ^ (9 * j' - (P + 1)) := by rw [pB_10, ← Nat.pow_add]; congr 1; omega
    have h8 : dg * 10 ^ P < 10 ^ (P + 1) := by
      have : dg * 10 ^ P ≤ 9 * 10 ^ P := Nat.mul_le_mul_right _ hd
      have hp := p10_pos P
      rw [Nat.pow_succ]; omega
    rw [e1, ← Nat.div_div_eq_div_mul, ← Nat.div_div_eq_div_mul, hq, Nat.mul_add_div (p10_pos _), Nat.div_eq_of_lt h8, Nat.add_zero, Nat.mul_div_cancel_left _ (p10_pos _)]
  · have key : ∀ Z, Z % 10 ^ P = 0 → Z / 1000000000 ^ j' % 1000000000 = 0 := by
      intro Z hZ
      have h2 : Z % 1000000000 ^ (j' + 1) = 0 := by
        rw [pB_10]
        exact Nat.mod_eq_zero_of_dvd (Nat.dvd_trans (Nat.pow_dvd_pow _ (by omega)) (Nat.dvd_of_mod_eq_zero hZ))
      rw [nb_mod] at h2
      have h3 := pB_pos j'
      rcases Nat.eq_zero_or_pos (Z / 1000000000 ^ j' % 1000000000) with y | y
      · exact y
      · have := Nat.mul_pos h3 y; omega
    have hT2 : T % 10 ^ P = 0 := Nat.mod_eq_zero_of_dvd (Nat.dvd_trans (Nat.pow_dvd_pow _ (by omega)) (Nat.dvd_of_mod_eq_zero hT))
    rw [key T hT2, key _ (by rw [Nat.add_mod, hT2, Nat.mul_mod_left]; exact Nat.zero_mod _)]
theorem ad_up {T P a : Nat} {dg : Nat} (hd : dg ≤ 9) (hT : T % 10 ^ (P + 1) = 0) (hP : P + 1 ≤ 9 * a) (h : T < 1000000000 ^ a) : T + dg * 10 ^ P < 1000000000 ^ a := by
  obtain ⟨q, hq⟩ := Nat.dvd_of_mod_eq_zero hT
  have e1 : 1000000000 ^ a = 10 ^ (P + 1) * 10 ^ (9 * a - (P + 1)) := by rw [pB_10, ← Nat.pow_add]; congr 1; omega
  have h8 : dg * 10 ^ P < 10 ^ (P + 1) := by
    have : dg * 10 ^ P ≤ 9 * 10 ^ P := Nat.mul_le_mul_right _ hd
    have hp := p10_pos P
    rw [Nat.pow_succ]; omega
  rw [hq, e1] at h
  have h1 : q < 10 ^ (9 * a - (P + 1)) := Nat.lt_of_mul_lt_mul_left h
  have h2 : 10 ^ (P + 1) * (q + 1) ≤ 10 ^ (P + 1) * 10 ^ (9 * a - (P + 1)) := Nat.mul_le_mul_left _ h1
  rw [hq, e1]
  rw [Nat.mul_add, Nat.mul_one] at h2
  omega
theorem ad_m {T P dg a : Nat} (hT : T % 1000000000 ^ a = 0) (ha : 9 * a ≤ P) : (T + dg * 10 ^ P) % 1000000000 ^ a = 0 := by
  have h : 10 ^ P % 1000000000 ^ a = 0 := by rw [pB_10]; exact Nat.mod_eq_zero_of_dvd (Nat.pow_dvd_pow _ ha)
  rw [Nat.add_mod, hT, Nat.mul_mod, h, Nat.mul_zero]; simp
theorem p10_B {P j i : Nat} (hP : P = 9 * j + i) (hi : i ≤ 8) {dg : Nat} (hd : 0 < dg ∧ dg ≤ 9) : 1000000000 ^ j ≤ dg * 10 ^ P ∧ dg * 10 ^ P < 1000000000 ^ (j + 1) := by
  have e1 : 10 ^ P = 1000000000 ^ j * 10 ^ i := by rw [pB_10, ← Nat.pow_add, hP]
  have h1 : 1000000000 ^ j ≤ 10 ^ P := by rw [pB_10]; exact p10_le (by omega)
  refine ⟨Nat.le_trans h1 (Nat.le_mul_of_pos_left _ hd.1), ?_⟩
  have h2 : dg * 10 ^ P < 10 ^ (P + 1) := by
    have : dg * 10 ^ P ≤ 9 * 10 ^ P := Nat.mul_le_mul_right _ hd.2
    have hp := p10_pos P
    rw [Nat.pow_succ]; omega
  refine Nat.lt_of_lt_of_le h2 ?_
  rw [pB_10]; exact p10_le (by omega)
