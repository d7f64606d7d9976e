/-! Pure numbers: decimal length, zeros behind, digits in base ten and in base 10^9 -/
theorem p10_pos (k : Nat) : 0 < 10 ^ k := Nat.pow_pos (by decide)
theorem pB_pos (k : Nat) : 0 < 1000000000 ^ k := Nat.pow_pos (by decide)
theorem pB_10 (k : Nat) : 1000000000 ^ k = 10 ^ (9 * k) := by rw [Nat.pow_mul]
theorem p10_le {a b : Nat} (h : a ≤ b) : 10 ^ a ≤ 10 ^ b := Nat.pow_le_pow_right (by decide) h
theorem p10_lt {a b : Nat} (h : 10 ^ a < 10 ^ b) : a < b := (Nat.pow_lt_pow_iff_right (by decide)).mp h
theorem p10_lt' {a b : Nat} (h : a < b) : 10 ^ a < 10 ^ b := Nat.pow_lt_pow_right (by decide) h
/-- how many decimal digits -/
def dl (n : Nat) : Nat := if h : 0 < n then dl (n / 10) + 1 else 0
termination_by n
decreasing_by omega
theorem dl_0 : dl 0 = 0 := by rw [dl]; simp
theorem dl_s {n : Nat} (h : 0 < n) : dl n = dl (n / 10) + 1 := by rw [dl]; simp [h]
theorem dl_lt (n : Nat) : n < 10 ^ dl n := by
  induction n using Nat.strongRecOn with
  | ind n ih =>
    rcases Nat.eq_zero_or_pos n with rfl | h
    · rw [dl_0]; decide
    · have := ih (n / 10) (by omega)
      rw [dl_s h, Nat.pow_succ]
      omega
theorem dl_le {n : Nat} (h : 0 < n) : 10 ^ (dl n - 1) ≤ n := by
  induction n using Nat.strongRecOn with
  | ind n ih =>
    rw [dl_s h, Nat.add_sub_cancel]
    rcases Nat.eq_zero_or_pos (n / 10) with h0 | h1
    · rw [h0, dl_0]; exact h
    · have := ih (n / 10) (by omega) h1
      have h2 : dl (n / 10) = (dl (n / 10) - 1) + 1 := by rw [dl_s h1]; omega
      rw [h2, Nat.pow_succ]
      omega
theorem dl_pos {n : Nat} (h : 0 < n) : 0 < dl n := by rw [dl_s h]; omega
theorem dl_eq0 {n : Nat} (h : dl n = 0) : n = 0 := by
  rcases Nat.eq_zero_or_pos n with h0 | h1
  · exact h0
  · have := dl_pos h1; omega
theorem dl_un {n L : Nat} (h1 : n < 10 ^ L) (h2 : 0 < L → 10 ^ (L - 1) ≤ n) : dl n = L := by
  rcases Nat.lt_trichotomy (dl n) L with h | h | h
  · have a := dl_lt n
    have b := h2 (by omega)
    have d := p10_le (show dl n ≤ L - 1 by omega)
    omega
  · exact h
  · have hn : 0 < n := by
      rcases Nat.eq_zero_or_pos n with h0 | h1
      · subst h0; rw [dl_0] at h; omega
      · exact h1
    have a := dl_le hn
    have d := p10_le (show L ≤ dl n - 1 by omega)
    omega
theorem dl_mono {a b : Nat} (h : a ≤ b) : dl a ≤ dl b := by
  rcases Nat.eq_zero_or_pos a with rfl | ha
  · rw [dl_0]; omega
  · have h1 := dl_le ha
    have h2 := dl_lt b
    have h3 : dl a - 1 < dl b := p10_lt (by omega)
    omega
theorem dl_bound {n L : Nat} (h : n < 10 ^ L) : dl n ≤ L := by
  rcases Nat.eq_zero_or_pos n with rfl | ha
  · rw [dl_0]; omega
  · have h1 := dl_le ha
    have h3 : dl n - 1 < L := p10_lt (by omega)
    omega
theorem dl_ge {n L : Nat} (h : 10 ^ L ≤ n) : L < dl n := by
  have h2 := dl_lt n
  exact p10_lt (by omega)
theorem dl_mul {n : Nat} (h : 0 < n) (k : Nat) : dl (n * 10 ^ k) = dl n + k := by
  apply dl_un
  · rw [Nat.pow_add]; exact Nat.mul_lt_mul_of_pos_right (dl_lt n) (p10_pos k)
  · intro _
    have h1 := dl_pos h
    have h2 : dl n + k - 1 = dl n - 1 + k := by omega
    rw [h2, Nat.pow_add]
    exact Nat.mul_le_mul_right _ (dl_le h)
theorem dl_div (n k : Nat) : dl (n / 10 ^ k) = dl n - k := by
  rcases Nat.lt_or_ge n (10 ^ k) with h | h
  · rw [Nat.div_eq_of_lt h, dl_0]
    have := dl_bound h
    omega
  · have hn : 0 < n := Nat.lt_of_lt_of_le (p10_pos k) h
    have hk := dl_ge h
    apply dl_un
    · rw [Nat.div_lt_iff_lt_mul (p10_pos k), ← Nat.pow_add]
      have : dl n - k + k = dl n := by omega
      rw [this]; exact dl_lt n
    · intro _
      rw [Nat.le_div_iff_mul_le (p10_pos k), ← Nat.pow_add]
      have : dl n - k - 1 + k = dl n - 1 := by omega
      rw [this]; exact dl_le hn
/-- without the zeros behind -/
def rz (n : Nat) : Nat := if h : 0 < n ∧ n % 10 = 0 then rz (n / 10) else n
termination_by n
decreasing_by omega
/-- how many zeros stood behind -/
def rt (n : Nat) : Nat := if h : 0 < n ∧ n % 10 = 0 then rt (n / 10) + 1 else 0
termination_by n
decreasing_by omega
theorem rz_y {n : Nat} (h : 0 < n) (h2 : n % 10 = 0) : rz n = rz (n / 10) := by rw [rz]; simp [h, h2]
theorem rz_n {n : Nat} (h : ¬ n % 10 = 0) : rz n = n := by rw [rz]; simp [h]
theorem rz_0 : rz 0 = 0 := by rw [rz]; simp
theorem rt_y {n : Nat} (h : 0 < n) (h2 : n % 10 = 0) : rt n = rt (n / 10) + 1 := by rw [rt]; simp [h, h2]
theorem rt_n {n : Nat} (h : ¬ n % 10 = 0) : rt n = 0 := by rw [rt]; simp [h]
theorem rt_0 : rt 0 = 0 := by rw [rt]; simp
theorem rz_eq (n : Nat) : n = rz n * 10 ^ rt n := by
  induction n using Nat.strongRecOn with
  | ind n ih =>
    rcases Nat.eq_zero_or_pos n with rfl | h
    · rw [rz_0]; simp
    · by_cases h2 : n % 10 = 0
      · have := ih (n / 10) (by omega)
        rw [rz_y h h2, rt_y h h2, Nat.pow_succ, ← Nat.mul_assoc, ← this]
        omega
      · rw [rz_n h2, rt_n h2]; simp
theorem rz_last {n : Nat} (h : 0 < n) : ¬ rz n % 10 = 0 := by
  induction n using Nat.strongRecOn with
  | ind n ih =>
    by_cases h2 : n % 10 = 0
    · rw [rz_y h h2]; exact ih (n / 10) (by omega) (by omega)
    · rw [rz_n h2]; exact h2
theorem rz_pos {n : Nat} (h : 0 < n) : 0 < rz n := by
  have := rz_last h
  omega
theorem rz_mul (n k : Nat) : rz (n * 10 ^ k) = rz n := by
  induction k with
  | zero => simp
  | succ k ih =>
    rcases Nat.eq_zero_or_pos n with rfl | h
    · simp
    · have h1 : n * 10 ^ (k + 1) = n * 10 ^ k * 10 := by rw [Nat.pow_succ, Nat.mul_assoc]
      have h2 : 0 < n * 10 ^ k := Nat.mul_pos h (p10_pos k)
      rw [h1, rz_y (by omega) (by omega), Nat.mul_div_cancel _ (by decide), ih]
theorem rz_un {n d t : Nat} (h : n = d * 10 ^ t) (hd : ¬ d % 10 = 0) : rz n = d := by
  rw [h, rz_mul, rz_n hd]
theorem rz_rz (n : Nat) : rz (rz n) = rz n := by
  rcases Nat.eq_zero_or_pos n with rfl | h
  · rw [rz_0, rz_0]
  · exact rz_n (rz_last h)
theorem dl_rz {n : Nat} (h : 0 < n) : dl n = dl (rz n) + rt n := by
  have h1 := dl_mul (rz_pos h) (rt n)
  rw [← rz_eq n] at h1
  exact h1
theorem rz_le (n : Nat) : rz n ≤ n := by
  have h := rz_eq n
  have h2 : rz n * 1 ≤ rz n * 10 ^ rt n := Nat.mul_le_mul_left _ (p10_pos _)
  omega
/-! digits -/
theorem nb_mod (b V i : Nat) : V % b ^ (i + 1) = V % b ^ i + b ^ i * (V / b ^ i % b) := by rw [Nat.pow_succ, Nat.mod_mul]
/-- 'times': the product at a part -/
theorem tm_prod {b : Nat} (hb : 0 < b) (V F i : Nat) : (V % b ^ (i + 1)) * F / b ^ i = (V / b ^ i % b) * F + (V % b ^ i) * F / b ^ i := by
  rw [nb_mod, Nat.add_comm, Nat.add_mul, Nat.mul_assoc, Nat.mul_add_div (Nat.pow_pos hb)]
theorem tm_carry {b : Nat} (hb : 0 < b) (V F i : Nat) : ((V / b ^ i % b) * F + (V % b ^ i) * F / b ^ i) / b = (V % b ^ (i + 1)) * F / b ^ (i + 1) := by
  rw [← tm_prod hb, Nat.div_div_eq_div_mul, ← Nat.pow_succ]
theorem tm_digit {b : Nat} (hb : 0 < b) (V F i : Nat) : ((V / b ^ i % b) * F + (V % b ^ i) * F / b ^ i) % b = V * F / b ^ i % b := by
  rw [← tm_prod hb]
  have h : V * F = b ^ i * (b * (V / b ^ (i + 1) * F)) + (V % b ^ (i + 1)) * F := by
    have h1 : V = b ^ (i + 1) * (V / b ^ (i + 1)) + V % b ^ (i + 1) := (Nat.div_add_mod V _).symm
    have h2 : V * F = (b ^ (i + 1) * (V / b ^ (i + 1)) + V % b ^ (i + 1)) * F := by rw [← h1]
    rw [h2, Nat.add_mul, Nat.pow_succ]
    simp only [Nat.mul_assoc]
  rw [h, Nat.mul_add_div (Nat.pow_pos hb), Nat.mul_add_mod]
theorem tm_last {b V F i : Nat} (h : V < b ^ i) : (V % b ^ i) * F / b ^ i = V * F / b ^ i := by rw [Nat.mod_eq_of_lt h]
theorem tm_small {b V F i : Nat} (hb : 0 < b) (hF : 0 < F) : (V % b ^ i) * F / b ^ i < F := by
  rw [Nat.div_lt_iff_lt_mul (Nat.pow_pos hb), Nat.mul_comm]
  exact Nat.mul_lt_mul_of_pos_left (Nat.mod_lt _ (Nat.pow_pos hb)) hF
/-- digits of a part -/
theorem pt_digit (x r : Nat) (hr : r < 9) : x % 1000000000 / 10 ^ r % 10 = x / 10 ^ r % 10 := by
  have h : 1000000000 = 10 ^ r * 10 ^ (9 - r) := by
    rw [← Nat.pow_add]
    have : r + (9 - r) = 9 := by omega
    rw [this]
  rw [h, Nat.mod_mul_right_div_self, Nat.mod_mod_of_dvd]
  exact ⟨10 ^ (9 - r - 1), by rw [← Nat.pow_succ']; congr 1; omega⟩
theorem nb_digit (V q : Nat) : V / 1000000000 ^ (q / 9) % 1000000000 / 10 ^ (q % 9) % 10 = V / 10 ^ q % 10 := by
  rw [pt_digit _ _ (Nat.mod_lt _ (by decide)), Nat.div_div_eq_div_mul, pB_10, ← Nat.pow_add]
  have : 9 * (q / 9) + q % 9 = q := by omega
  rw [this]
/-- 'setDigits': a digit more -/
theorem sd_step (x t : Nat) : x / 10 % 10 ^ t * 10 + x % 10 = x % 10 ^ (t + 1) := by
  rw [Nat.pow_succ, Nat.mul_comm (10 ^ t) 10, Nat.mod_mul, Nat.mul_comm 10, Nat.add_comm]
/-- the first k of L digits -/
theorem dg_first {D L i : Nat} (h : i < L) : D / 10 ^ (L - (i + 1)) = D / 10 ^ (L - i) * 10 + D / 10 ^ (L - 1 - i) % 10 := by
  have h1 : L - i = L - (i + 1) + 1 := by omega
  have h2 : L - 1 - i = L - (i + 1) := by omega
  rw [h1, h2, Nat.pow_succ, ← Nat.div_div_eq_div_mul]
  omega
/-! the state of a Natural: its parts are those of V -/
def nt_ok (f : Nat → Int32) (sz V : Nat) : Prop := sz ≤ 306 ∧ V < 1000000000 ^ sz ∧ (0 < sz → 1000000000 ^ (sz - 1) ≤ V) ∧ ∀ i, i < sz → f i = iI ((V / 1000000000 ^ i % 1000000000 : Nat) : Int)
/-- the digits of D, L of them, stand in f -/
def dg_ok (f : Nat → Int32) (L D : Nat) : Prop := ∀ i, i < L → f i = iI ((D / 10 ^ (L - 1 - i) % 10 : Nat) : Int)
/-- a byte array that holds numbers of a byte -/
def by_ok (f : Nat → Int32) : Prop := ∀ i, ∃ z : Int, -128 ≤ z ∧ z < 128 ∧ f i = iI z
theorem by_up {f : Nat → Int32} {k : Nat} {z : Int} (h : by_ok f) (hz : -128 ≤ z ∧ z < 128) : by_ok (upd f k (iI z)) := fun i => by
  by_cases e : i = k
  · subst e; exact ⟨z, hz.1, hz.2, pk_us⟩
  · obtain ⟨y, a, b, d⟩ := h i; exact ⟨y, a, b, by rw [pk_un e]; exact d⟩
theorem dg_lt (D k : Nat) : D / 10 ^ k % 10 < 10 := Nat.mod_lt _ (by decide)
theorem nb_lt (V i : Nat) : V / 1000000000 ^ i % 1000000000 < 1000000000 := Nat.mod_lt _ (by decide)
theorem nt_len {f : Nat → Int32} {sz V : Nat} (h : nt_ok f sz V) (h0 : 0 < sz) : dl V = 9 * (sz - 1) + dl (V / 1000000000 ^ (sz - 1)) := by
  obtain ⟨-, h1, h2, -⟩ := h
  have h3 := h2 h0
  rw [pB_10, dl_div]
  rw [pB_10] at h3
  have := dl_ge h3
  omega
theorem nt_top {f : Nat → Int32} {sz V : Nat} (h : nt_ok f sz V) (h0 : 0 < sz) : V / 1000000000 ^ (sz - 1) % 1000000000 = V / 1000000000 ^ (sz - 1) ∧ 0 < V / 1000000000 ^ (sz - 1) := by
  obtain ⟨-, h1, h2, -⟩ := h
  constructor
  · apply Nat.mod_eq_of_lt
    rw [Nat.div_lt_iff_lt_mul (pB_pos _), Nat.mul_comm, ← Nat.pow_succ]
    have : (sz - 1).succ = sz := by omega
    rw [this]; exact h1
  · exact Nat.div_pos (h2 h0) (pB_pos _)
theorem nt_zero {f : Nat → Int32} {sz V : Nat} (h : nt_ok f sz V) : sz = 0 ↔ V = 0 := by
  obtain ⟨-, h1, h2, -⟩ := h
  constructor
  · intro e; subst e; simpa using h1
  · intro e; subst e
    rcases Nat.eq_zero_or_pos sz with h | h
    · exact h
    · have := h2 h; have := pB_pos (sz - 1); omega
theorem rz_mr (a b : Nat) : rz (rz a * b) = rz (a * b) := by
  have h : a * b = rz a * b * 10 ^ rt a := by
    have := rz_eq a
    calc a * b = rz a * 10 ^ rt a * b := by rw [← this]
      _ = rz a * b * 10 ^ rt a := by rw [Nat.mul_right_comm]
  rw [h, rz_mul]
theorem dl_tele {a b : Nat} (ha : 0 < a) (hb : 0 < b) : dl (rz a * b) + dl a = dl (a * b) + dl (rz a) := by
  have h : a * b = rz a * b * 10 ^ rt a := by
    have := rz_eq a
    calc a * b = rz a * 10 ^ rt a * b := by rw [← this]
      _ = rz a * b * 10 ^ rt a := by rw [Nat.mul_right_comm]
  rw [h, dl_mul (Nat.mul_pos (rz_pos ha) hb), dl_rz ha]
  omega
/-- the digits of X without its last, where that is 0 -/
theorem dg_drop {f : Nat → Int32} {n X : Nat} (h : dg_ok f (n + 1) X) : dg_ok f n (X / 10) := by
  intro i hi
  rw [h i (by omega)]
  have e : n + 1 - 1 - i = 1 + (n - 1 - i) := by omega
  rw [e, Nat.pow_add, Nat.pow_one, Nat.div_div_eq_div_mul]
theorem dg_dropk {f : Nat → Int32} {n k X : Nat} (h : dg_ok f (n + k) X) : dg_ok f n (X / 10 ^ k) := by
  intro i hi
  rw [h i (by omega)]
  have e : n + k - 1 - i = k + (n - 1 - i) := by omega
  rw [e, Nat.pow_add, Nat.div_div_eq_div_mul]
theorem dg_pre {f : Nat → Int32} {L D n : Nat} (h : dg_ok f L D) (hn : n ≤ L) : dg_ok f n (D / 10 ^ (L - n)) := by
  have e : n + (L - n) = L := by omega
  exact dg_dropk (k := L - n) (by rw [e]; exact h)
/-- the last of the first i+1 digits -/
theorem dg_last {D L i : Nat} (h : i < L) : D / 10 ^ (L - (i + 1)) % 10 = D / 10 ^ (L - 1 - i) % 10 := by
  have : L - (i + 1) = L - 1 - i := by omega
  rw [this]
theorem p2_10 (k : Nat) : 2 ^ k ≤ 10 ^ k := Nat.pow_le_pow_left (by decide) k
theorem p5_10 (k : Nat) : 5 ^ k ≤ 10 ^ k := Nat.pow_le_pow_left (by decide) k
theorem p5_7 (k : Nat) : 5 ^ (10 * k) ≤ 10 ^ (7 * k) := by
  rw [Nat.pow_mul, Nat.pow_mul]; exact Nat.pow_le_pow_left (by decide) k
theorem p2_4 (k : Nat) : 2 ^ (10 * k) ≤ 10 ^ (4 * k) := by
  rw [Nat.pow_mul, Nat.pow_mul]; exact Nat.pow_le_pow_left (by decide) k
/-- how many bits -/
def bl (n : Nat) : Nat := if h : 0 < n then bl (n / 2) + 1 else 0
termination_by n
decreasing_by omega
theorem bl_0 : bl 0 = 0 := by rw [bl]; simp
theorem bl_s {n : Nat} (h : 0 < n) : bl n = bl (n / 2) + 1 := by rw [bl]; simp [h]
theorem bl_lt (n : Nat) : n < 2 ^ bl n := by
  induction n using Nat.strongRecOn with
  | ind n ih =>
    rcases Nat.eq_zero_or_pos n with rfl | h
    · rw [bl_0]; decide
    · have := ih (n / 2) (by omega)
      rw [bl_s h, Nat.pow_succ]
      omega
theorem bl_le {n : Nat} (h : 0 < n) : 2 ^ (bl n - 1) ≤ n := by
  induction n using Nat.strongRecOn with
  | ind n ih =>
    rw [bl_s h, Nat.add_sub_cancel]
    rcases Nat.eq_zero_or_pos (n / 2) with h0 | h1
    · rw [h0, bl_0]; exact h
    · have := ih (n / 2) (by omega) h1
      have h2 : bl (n / 2) = (bl (n / 2) - 1) + 1 := by rw [bl_s h1]; omega
      rw [h2, Nat.pow_succ]
      omega
theorem bl_pos {n : Nat} (h : 0 < n) : 0 < bl n := by rw [bl_s h]; omega
theorem p2_lt {a b : Nat} (h : 2 ^ a < 2 ^ b) : a < b := (Nat.pow_lt_pow_iff_right (by decide)).mp h
theorem bl_bound {n L : Nat} (h : n < 2 ^ L) : bl n ≤ L := by
  rcases Nat.eq_zero_or_pos n with rfl | ha
  · rw [bl_0]; omega
  · have h1 := bl_le ha
    have h3 : bl n - 1 < L := p2_lt (by omega)
    omega
theorem bl_ge {n L : Nat} (h : 2 ^ L ≤ n) : L < bl n := by
  have h2 := bl_lt n
  exact p2_lt (by omega)
theorem bl_iff {n L : Nat} : bl n ≤ L ↔ n < 2 ^ L := by
  constructor
  · intro h
    exact Nat.lt_of_lt_of_le (bl_lt n) (Nat.pow_le_pow_right (by decide) h)
  · exact bl_bound
theorem bl_un {n L : Nat} (h1 : n < 2 ^ L) (h2 : 0 < L → 2 ^ (L - 1) ≤ n) : bl n = L := by
  have a := bl_bound h1
  rcases Nat.eq_zero_or_pos L with rfl | h
  · omega
  · have := bl_ge (h2 h); omega
