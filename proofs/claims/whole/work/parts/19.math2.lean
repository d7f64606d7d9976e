/-! pure rows for Natural -/
theorem sd_e {X n i : Nat} (h : i < n) : X / 10 ^ (n - i) % 10 ^ (8 - (n - 1 - i) % 9) * 10 + X / 10 ^ (n - 1 - i) % 10 = X / 10 ^ (n - 1 - i) % 10 ^ (9 - (n - 1 - i) % 9) := by
  have e1 : n - i = n - 1 - i + 1 := by omega
  have e2 : 9 - (n - 1 - i) % 9 = 8 - (n - 1 - i) % 9 + 1 := by omega
  rw [e1, e2, Nat.pow_succ 10 (n - 1 - i), ← Nat.div_div_eq_div_mul]
  exact sd_step _ _
theorem sd_f (x p : Nat) : x % 10 ^ (9 - p) < 1000000000 := by
  have h1 : x % 10 ^ (9 - p) < 10 ^ (9 - p) := Nat.mod_lt _ (p10_pos _)
  have h2 : 10 ^ (9 - p) ≤ 10 ^ 9 := p10_le (by omega)
  omega
theorem sd_a {X n i : Nat} (h : i + 1 < n) (h9 : (n - 1 - i) % 9 = 0) : 0 = X / 10 ^ (n - (i + 1)) % 10 ^ (8 - (n - 1 - (i + 1)) % 9) := by
  have e : 8 - (n - 1 - (i + 1)) % 9 = 0 := by omega
  rw [e, Nat.pow_zero, Nat.mod_one]
theorem sd_c {X n i : Nat} (h : i + 1 < n) (h9 : ¬ (n - 1 - i) % 9 = 0) : X / 10 ^ (n - 1 - i) % 10 ^ (9 - (n - 1 - i) % 9) = X / 10 ^ (n - (i + 1)) % 10 ^ (8 - (n - 1 - (i + 1)) % 9) := by
  have e1 : n - (i + 1) = n - 1 - i := by omega
  have e2 : 8 - (n - 1 - (i + 1)) % 9 = 9 - (n - 1 - i) % 9 := by omega
  rw [e1, e2]
theorem sd_b {h : Nat → Int32} {X n i m : Nat} {x : Int32} (hpa : ∀ j, n - i ≤ 9 * j → j < m → h j = iI ((X / 1000000000 ^ j % 1000000000 : Nat) : Int)) (hi : i < n) (h9 : (n - 1 - i) % 9 = 0) (hx : x = iI ((X / 10 ^ (n - 1 - i) % 10 ^ (9 - (n - 1 - i) % 9) : Nat) : Int)) :
    ∀ j, n - (i + 1) ≤ 9 * j → j < m → upd h ((n - 1 - i) / 9) x j = iI ((X / 1000000000 ^ j % 1000000000 : Nat) : Int) := by
  intro j h1 h2
  by_cases e : j = (n - 1 - i) / 9
  · have e2 : 1000000000 ^ j = 10 ^ (n - 1 - i) := by
      rw [pB_10, e]; congr 1; omega
    have e3 : 10 ^ (9 - (n - 1 - i) % 9) = 1000000000 := by rw [h9]
    rw [hx, e2, e3, e, pk_us]
  · rw [pk_un e]; exact hpa j (by omega) h2
theorem sd_d {h : Nat → Int32} {X n i m : Nat} (hpa : ∀ j, n - i ≤ 9 * j → j < m → h j = iI ((X / 1000000000 ^ j % 1000000000 : Nat) : Int)) (hi : i < n) (h9 : ¬ (n - 1 - i) % 9 = 0) :
    ∀ j, n - (i + 1) ≤ 9 * j → j < m → h j = iI ((X / 1000000000 ^ j % 1000000000 : Nat) : Int) := fun j h1 h2 => hpa j (by omega) h2
theorem sd_g {h : Nat → Int32} {X n : Nat} (hn : n ≤ 1200) (hX1 : X < 10 ^ n) (hX2 : 0 < n → 10 ^ (n - 1) ≤ X) (hh : ∀ j, j < (n + 8) / 9 → h j = iI ((X / 1000000000 ^ j % 1000000000 : Nat) : Int)) : nt_ok h ((n + 8) / 9) X := by
  refine ⟨by omega, ?_, fun z => ?_, hh⟩
  · rw [pB_10]; exact Nat.lt_of_lt_of_le hX1 (p10_le (by omega))
  · rw [pB_10]; exact Nat.le_trans (p10_le (by omega)) (hX2 (by omega))
/-- times two to k, the tens apart: 2^k, or 5^-k -/
def tw2p (k : Int) : Nat := 2 ^ k.toNat
def tw2 (k : Int) : Nat := tw2p k * 5 ^ (-k).toNat
theorem tw2_a (V : Nat) (k : Int) : V * tw2p k ≤ V * tw2 k := Nat.mul_le_mul_left _ (Nat.le_mul_of_pos_right _ (Nat.pow_pos (by decide)))
theorem tw2_b (V : Nat) (k : Int) : V * tw2p k * 5 ^ (-k).toNat = V * tw2 k := by rw [tw2, Nat.mul_assoc]
theorem tw2_pos (k : Int) : 0 < tw2 k := Nat.mul_pos (Nat.pow_pos (by decide)) (Nat.pow_pos (by decide))
theorem shl1 : ∀ n, n < 30 → iI 1 <<< (nI n &&& 31) = nI (2 ^ n) := by decide +kernel
