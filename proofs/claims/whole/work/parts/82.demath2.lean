/-! Decimal: and with 1, digits, what lies below -/
theorem and_i1 {a : Nat} (ha : a < 2 ^ 32) : iI (a : Int) &&& iI 1 = iI ((a % 2 : Nat) : Int) := by
  have e1 : iI 1 = nI 1 := rfl
  rw [iI_nat, iI_nat, e1]
  apply Int32.toBitVec_inj.mp
  rw [Int32.toBitVec_and]
  show BitVec.ofNat 32 a &&& BitVec.ofNat 32 1 = BitVec.ofNat 32 (a % 2)
  apply BitVec.eq_of_toNat_eq
  rw [BitVec.toNat_and, BitVec.toNat_ofNat, BitVec.toNat_ofNat, BitVec.toNat_ofNat, Nat.mod_eq_of_lt ha, Nat.mod_eq_of_lt (show 1 < 2 ^ 32 by decide), Nat.and_one_is_mod]
  exact (Nat.mod_eq_of_lt (show a % 2 < 2 ^ 32 by omega)).symm
theorem dd_w {T Pn j i : Nat} (hj : j = Pn / 9) (hi : i = Pn % 9) : wq T (464 - j) / 10 ^ i % 10 = T / 10 ^ Pn % 10 ∨ 464 < j := by
  rcases Nat.lt_or_ge 464 j with z | z
  · exact Or.inr z
  · left
    unfold wq
    rw [show 464 - (464 - j) = j by omega, hj, hi]
    exact nb_digit T Pn
theorem bz_d {T Pn a : Nat} (ha : a < Pn) : T % 10 ^ Pn / 10 ^ a % 10 = T / 10 ^ a % 10 := by
  have e : 10 ^ Pn = 10 ^ a * (10 * 10 ^ (Pn - a - 1)) := by rw [← Nat.pow_succ', ← Nat.pow_add]; congr 1; omega
  rw [e, Nat.mod_mul_right_div_self, Nat.mod_mul_right_mod]
theorem bz_s {T Pn a : Nat} (ha : a < Pn) (hR : T % 10 ^ Pn < 10 ^ (a + 1)) (hz : T / 10 ^ a % 10 = 0) : T % 10 ^ Pn < 10 ^ a := by
  rw [← bz_d ha] at hz
  have h1 : T % 10 ^ Pn / 10 ^ a < 10 := by
    rw [Nat.div_lt_iff_lt_mul (p10_pos a), Nat.mul_comm]; exact hR
  rw [Nat.mod_eq_of_lt h1] at hz
  rcases Nat.div_eq_zero_iff.mp hz with z | z
  · exact absurd z (Nat.ne_of_gt (p10_pos _))
  · exact z
theorem bz_n {T Pn a : Nat} (ha : a < Pn) (hz : ¬ T / 10 ^ a % 10 = 0) : ¬ T % 10 ^ Pn = 0 := by
  intro h
  rw [← bz_d ha, h, Nat.zero_div] at hz
  exact hz rfl
theorem bz_e {T Pn b a : Nat} (hT : T % 1000000000 ^ a = 0) (hR : T % 10 ^ Pn < 10 ^ b) (hb : b ≤ 9 * a) : T % 10 ^ Pn = 0 := by
  rw [pB_10] at hT
  rcases Nat.le_total Pn (9 * a) with z | z
  · exact Nat.mod_eq_zero_of_dvd (Nat.dvd_trans (Nat.pow_dvd_pow _ z) (Nat.dvd_of_mod_eq_zero hT))
  · have h1 : T % 10 ^ Pn % 10 ^ (9 * a) = 0 := by rw [Nat.mod_mod_of_dvd _ (Nat.pow_dvd_pow _ z)]; exact hT
    rw [Nat.mod_eq_of_lt (Nat.lt_of_lt_of_le hR (p10_le hb))] at h1
    exact h1
