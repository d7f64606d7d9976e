/-! digits of a Natural, one by one -/
/-- a part, without its last digits -/
def rd (V i : Nat) : Nat := V / 1000000000 ^ (i / 9) % 1000000000 / 10 ^ (i % 9)
theorem rd_0 {V i : Nat} (h : i % 9 = 0) : rd V i = V / 1000000000 ^ (i / 9) % 1000000000 := by rw [rd, h, Nat.pow_zero, Nat.div_one]
theorem rd_s {V i : Nat} (h : ¬ i % 9 = 0) : rd V i = rd V (i - 1) / 10 := by
  have e1 : i / 9 = (i - 1) / 9 := by omega
  have e2 : i % 9 = (i - 1) % 9 + 1 := by omega
  rw [rd, rd, e1, e2, Nat.pow_succ, Nat.div_div_eq_div_mul]
theorem rd_lt (V i : Nat) : rd V i < 1000000000 := Nat.lt_of_le_of_lt (Nat.div_le_self _ _) (nb_lt V _)
theorem rd_d (V i : Nat) : rd V i % 10 = V / 10 ^ i % 10 := nb_digit V i
/-- whether a digit that is not 0 stands below a place -/
def hdb (V : Nat) (place : Int) : Int := if V % 10 ^ place.toNat = 0 then 0 else 1
theorem hdb_nar (V : Nat) (place : Int) : narrow .boolean (.int (iI (hdb V place))) = .int (iI (hdb V place)) := by
  unfold hdb
  split <;> decide +kernel
theorem hdb_or (V : Nat) (place : Int) : hdb V place = 0 ∨ hdb V place = 1 := by
  unfold hdb
  split
  · exact Or.inl rfl
  · exact Or.inr rfl
theorem md_s {V i : Nat} (h : V % 10 ^ i = 0) (h2 : V / 10 ^ i % 10 = 0) : V % 10 ^ (i + 1) = 0 := by rw [nb_mod, h, h2]; simp
theorem md_n {V i : Nat} {place : Int} (h2 : ¬ V / 10 ^ i % 10 = 0) (hp : ((i + 1 : Nat) : Int) ≤ place) : hdb V place = 1 := by
  unfold hdb
  rw [if_neg]
  intro z
  have d : 10 ^ (i + 1) ∣ 10 ^ place.toNat := Nat.pow_dvd_pow 10 (by omega)
  have z2 : V % 10 ^ (i + 1) = 0 := by rw [← Nat.mod_mod_of_dvd V d, z]; simp
  have z3 := nb_mod 10 V i
  rw [z2] at z3
  have : 10 ^ i * (V / 10 ^ i % 10) = 0 := by omega
  rcases Nat.mul_eq_zero.mp this with y | y
  · have := p10_pos i; omega
  · exact h2 y
theorem md_e {V i : Nat} {place : Int} (h : V % 10 ^ i = 0) (hi : (i : Int) = min place ((dl V : Nat) : Int) ∨ (i = 0 ∧ place ≤ 0)) : hdb V place = 0 := by
  unfold hdb
  rw [if_pos]
  rcases hi with hi | ⟨hi, hp⟩
  · rcases Int.le_total place ((dl V : Nat) : Int) with z | z
    · have : place.toNat = i := by omega
      rw [this]; exact h
    · have e : i = dl V := by omega
      rw [e, Nat.mod_eq_of_lt (dl_lt V)] at h
      rw [h]; simp
  · have : place.toNat = 0 := by omega
    rw [this, Nat.pow_zero, Nat.mod_one]
/-- the first digits of V stand in the row -/
def cp_ok (h : Nat → Int32) (V : Nat) : Prop := ∀ j, j < dl V → j < 1200 → h j = iI ((V / 10 ^ (dl V - 1 - j) % 10 : Nat) : Int)
theorem cp_s {h : Nat → Int32} {V i : Nat} {x : Int32} (hh : ∀ j, dl V - i ≤ j → j < dl V → j < 1200 → h j = iI ((V / 10 ^ (dl V - 1 - j) % 10 : Nat) : Int)) (hi : i < dl V) (hx : x = iI ((V / 10 ^ i % 10 : Nat) : Int)) :
    ∀ j, dl V - (i + 1) ≤ j → j < dl V → j < 1200 → upd h (dl V - 1 - i) x j = iI ((V / 10 ^ (dl V - 1 - j) % 10 : Nat) : Int) := by
  intro j h1 h2 h3
  by_cases e : j = dl V - 1 - i
  · have e2 : dl V - 1 - j = i := by omega
    rw [hx, e2, e, pk_us]
  · rw [pk_un e]; exact hh j (by omega) h2 h3
theorem cp_n {h : Nat → Int32} {V i : Nat} (hh : ∀ j, dl V - i ≤ j → j < dl V → j < 1200 → h j = iI ((V / 10 ^ (dl V - 1 - j) % 10 : Nat) : Int)) (hi : 1200 ≤ dl V - 1 - i) :
    ∀ j, dl V - (i + 1) ≤ j → j < dl V → j < 1200 → h j = iI ((V / 10 ^ (dl V - 1 - j) % 10 : Nat) : Int) := fun j h1 h2 h3 => hh j (by omega) h2 h3
theorem nt_pl {f : Nat → Int32} {sz V i : Nat} (h : nt_ok f sz V) (hi : i < dl V) : i / 9 < sz := by
  rcases Nat.lt_or_ge (i / 9) sz with z | z
  · exact z
  · obtain ⟨-, h2, -, -⟩ := h
    rw [pB_10] at h2
    have := dl_bound h2
    omega
/-- the first i digits; zeros stand behind the last -/
def fd (V i : Nat) : Nat := if i ≤ dl V then V / 10 ^ (dl V - i) else V * 10 ^ (i - dl V)
theorem fd_0 (V : Nat) : fd V 0 = 0 := by
  unfold fd
  rw [if_pos (by omega), Nat.sub_zero, Nat.div_eq_of_lt (dl_lt V)]
theorem fd_d {V i : Nat} (h : i < dl V) : fd V (i + 1) = fd V i * 10 + V / 10 ^ (dl V - 1 - i) % 10 := by
  unfold fd
  rw [if_pos (by omega), if_pos (by omega)]
  exact dg_first h
theorem fd_z {V i : Nat} (h : dl V ≤ i) : fd V (i + 1) = fd V i * 10 := by
  unfold fd
  rw [if_neg (by omega)]
  have e : i + 1 - dl V = i - dl V + 1 := by omega
  rcases Nat.lt_or_ge (dl V) i with z | z
  · rw [if_neg (by omega), e, Nat.pow_succ, Nat.mul_assoc]
  · have : i = dl V := by omega
    rw [if_pos (by omega), e, this]; simp
theorem fd_le {V i : Nat} : fd V i * 10 ≤ fd V (i + 1) := by
  rcases Nat.lt_or_ge i (dl V) with z | z
  · rw [fd_d z]; omega
  · rw [fd_z z]; omega
theorem fd_mono {V i n : Nat} (h : i ≤ n) : fd V i ≤ fd V n := by
  induction n with
  | zero => have : i = 0 := by omega
            rw [this]; exact Nat.le_refl _
  | succ n ih =>
    rcases Nat.lt_or_ge i (n + 1) with z | z
    · have := ih (by omega)
      have := fd_le (V := V) (i := n)
      omega
    · have : i = n + 1 := by omega
      rw [this]; exact Nat.le_refl _
