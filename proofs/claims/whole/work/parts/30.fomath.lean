/-! the formats: numbers -/
def jz (k : Nat) : Nat := if k = 0 then 2046 else 254
theorem fz_all : ∀ k, k < 2 → (fbz k = 52 ∧ lez k = -1074 ∧ jz k = 2046 ∧ mkz k = 9223372036854775807 ∧ ifz k = 9218868437227405312) ∨ (fbz k = 23 ∧ lez k = -149 ∧ jz k = 254 ∧ mkz k = 2147483647 ∧ ifz k = 2139095040) := by decide
theorem ifz_eq : ∀ k, k < 2 → ifz k = (jz k + 1) * 2 ^ fbz k := by decide
theorem mkz_eq : ∀ k, k < 2 → mkz k = 2 ^ (if k = 0 then 63 else 31) - 1 := by decide
theorem mkz_and {k b : Nat} (hk : k < 2) (hb : b < 2 ^ 64) : lN b &&& jI ((mkz k : Nat) : Int) = jI ((b % (mkz k + 1) : Nat) : Int) := by
  have h : mkz k + 1 = 2 ^ (if k = 0 then 63 else 31) := by rw [mkz_eq k hk]; split <;> rfl
  rw [jI_nat, jI_nat, h, mkz_eq k hk]
  exact wb_mask hb (by split <;> decide)
/-- the significand that is meant -/
def sgz (k x : Nat) : Nat := if x < 2 ^ fbz k then x % 2 ^ fbz k else x % 2 ^ fbz k + 2 ^ fbz k
theorem shl_l {a k : Nat} (hk : k < 64) : jI (a : Int) <<< ((iI (k : Int)).toInt64 &&& 63) = jI ((a * 2 ^ k : Nat) : Int) := by
  rw [jI_nat, jI_nat, iI_nat]; exact wb_shl a hk
theorem shr_l {a k : Nat} (ha : a < 2 ^ 64) (hk : k < 64) : ((jI (a : Int)).toUInt64 >>> ((iI (k : Int)).toInt64.toUInt64 &&& Int64.toUInt64 63)).toInt64 = jI ((a / 2 ^ k : Nat) : Int) := by
  rw [jI_nat, jI_nat, iI_nat]; exact wb_shr ha hk
theorem and_m {a k : Nat} (ha : a < 2 ^ 64) (hk : k < 64) : jI (a : Int) &&& jI ((2 ^ k - 1 : Nat) : Int) = jI ((a % 2 ^ k : Nat) : Int) := by
  rw [jI_nat, jI_nat, jI_nat]; exact wb_mask ha hk
theorem or_p {a k : Nat} (hk : k < 63) (ha : a < 2 ^ k) : jI (a : Int) ||| jI ((2 ^ k : Nat) : Int) = jI ((a + 2 ^ k : Nat) : Int) := by
  have h1 : 2 ^ k < 2 ^ 63 := Nat.pow_lt_pow_right (by decide) hk
  have h2 : a ||| 2 ^ k = a + 2 ^ k := by
    have := Nat.two_pow_add_eq_or_of_lt ha 1
    rw [Nat.mul_one] at this
    rw [Nat.or_comm, ← this, Nat.add_comm]
  rw [jI_nat, jI_nat, jI_nat, wb_or (by omega) (by omega), h2]
theorem and_1 {a : Nat} (ha : a < 2 ^ 64) : jI (a : Int) &&& jI 1 = jI ((a % 2 : Nat) : Int) := by
  rw [jI_nat, jI_nat]; exact wb_a1 ha
