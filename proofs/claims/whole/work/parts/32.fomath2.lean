theorem nto_small {P M num t h rem dp : Nat} (hM : 0 < M) (ht : 0 < t) (hn : num = h * t + rem) (hr : rem < t) (hh : h < 2 ^ 62) (hd : 64 ≤ dp) (hX : P * (t * 2 ^ dp) = num * (M * 2 ^ 0)) : 2 * P < M := by
  rcases Nat.lt_or_ge (2 * P) M with z | z
  · exact z
  · exfalso
    rw [Nat.pow_zero, Nat.mul_one] at hX
    have h1 : num < 2 ^ 62 * t := by
      have : (h + 1) * t ≤ 2 ^ 62 * t := Nat.mul_le_mul_right _ hh
      rw [Nat.add_mul, Nat.one_mul] at this
      omega
    have h2 : num * M < 2 ^ 62 * t * M := Nat.mul_lt_mul_of_pos_right h1 hM
    have h3 : 2 ^ 64 ≤ 2 ^ dp := Nat.pow_le_pow_right (by decide) hd
    have h4 : P * (t * 2 ^ 64) ≤ P * (t * 2 ^ dp) := Nat.mul_le_mul_left _ (Nat.mul_le_mul_left _ h3)
    have h5 : M * (t * 2 ^ 63) ≤ 2 * P * (t * 2 ^ 63) := Nat.mul_le_mul_right _ z
    have h6 : 2 * P * (t * 2 ^ 63) = P * (t * 2 ^ 64) := by
      rw [Nat.mul_comm 2 P, Nat.mul_assoc, Nat.mul_left_comm 2 t]
    have h7 : 2 ^ 62 * t * M ≤ M * (t * 2 ^ 63) := by
      have : 2 ^ 62 * t * M = M * (t * 2 ^ 62) := by rw [Nat.mul_comm, Nat.mul_comm (2 ^ 62)]
      rw [this]
      exact Nat.mul_le_mul_left _ (Nat.mul_le_mul_left _ (by decide))
    omega
theorem nt_q1 {h dp w : Nat} (hb : bl h ≤ dp + w) : h / 2 ^ dp < 2 ^ w := by
  rw [Nat.div_lt_iff_lt_mul (p2_pos _), ← Nat.pow_add, Nat.add_comm]
  exact Nat.lt_of_lt_of_le (bl_lt h) (Nat.pow_le_pow_right (by decide) hb)
theorem nt_q2 {h dp w : Nat} (hp : 0 < h) (hb : bl h = dp + w + 1) : 2 ^ w ≤ h / 2 ^ dp := by
  rw [Nat.le_div_iff_mul_le (p2_pos _), ← Nat.pow_add]
  have := bl_le hp
  rw [hb] at this
  have e : w + dp = dp + w + 1 - 1 := by omega
  rw [e]; exact this
theorem nt_main {kf P M num t h rem dp E q u half : Nat} {b : Prop} (hM : 0 < M) (ht : 0 < t) (hn : num = h * t + rem) (hr : rem < t) (hX : P * (t * 2 ^ dp) = num * (M * 2 ^ E)) (hdp1 : 1 ≤ dp) (hq : q = h / 2 ^ dp) (hhalf : half = 2 ^ (dp - 1))
    (hb1 : bl h ≤ dp + (fbz kf + 1)) (hb2 : 0 < E → bl h = dp + fbz kf + 1) (hp : 0 < h)
    (hu : (u = 1 ∧ (half < h - q * 2 ^ dp ∨ (half = h - q * 2 ^ dp ∧ ((b ∨ 0 < rem) ∨ q % 2 = 1)))) ∨ (u = 0 ∧ ¬ (half < h - q * 2 ^ dp ∨ (half = h - q * 2 ^ dp ∧ ((b ∨ 0 < rem) ∨ q % 2 = 1))))) :
    NR (fbz kf + 1) (ifz kf) P M b (min (ifz kf) (E * 2 ^ fbz kf + q + u)) := by
  have hd : 2 ^ dp = 2 * half := by rw [hhalf, ← Nat.pow_succ']; congr 1; omega
  have := NR_head (sz := fbz kf + 1) (inf := ifz kf) (b := b) hM ht hn hr hX hd hq (by rw [hq]; exact nt_q1 hb1) (fun z => by rw [hq, Nat.add_sub_cancel]; exact nt_q2 hp (hb2 z)) hu
  rw [Nat.add_sub_cancel] at this
  exact this
theorem nt_le {kf E q u : Nat} (hkf : kf < 2) (hE : E + 1 ≤ jz kf) (hq : q < 2 ^ (fbz kf + 1)) (hu : u ≤ 1) : E * 2 ^ fbz kf + q + u ≤ ifz kf := by
  rw [ifz_eq kf hkf]
  have h1 : (E + 1) * 2 ^ fbz kf ≤ jz kf * 2 ^ fbz kf := Nat.mul_le_mul_right _ hE
  rw [Nat.add_mul, Nat.one_mul] at h1
  rw [Nat.add_mul, Nat.one_mul]
  rw [Nat.pow_succ] at hq
  omega
theorem nt_ge {kf E q : Nat} (hkf : kf < 2) (hE : jz kf ≤ E) (hq : 2 ^ fbz kf ≤ q) : ifz kf ≤ E * 2 ^ fbz kf + q := by
  rw [ifz_eq kf hkf]
  have h1 : jz kf * 2 ^ fbz kf ≤ E * 2 ^ fbz kf := Nat.mul_le_mul_right _ hE
  rw [Nat.add_mul, Nat.one_mul]
  omega
theorem nt_inf {kf P M num t h rem dp E : Nat} {b : Prop} (hkf : kf < 2) (hM : 0 < M) (ht : 0 < t) (hn : num = h * t + rem) (hr : rem < t) (hX : P * (t * 2 ^ dp) = num * (M * 2 ^ E)) (hdp1 : 1 ≤ dp)
    (hb1 : bl h ≤ dp + (fbz kf + 1)) (hb2 : 0 < E → bl h = dp + fbz kf + 1) (hp : 0 < h) (hE : jz kf ≤ E) : NR (fbz kf + 1) (ifz kf) P M b (ifz kf) := by
  have hj : 0 < jz kf := by have := fz_all kf hkf; omega
  have hg := nt_ge (q := h / 2 ^ dp) hkf hE (nt_q2 hp (hb2 (by omega)))
  have c := Classical.em (2 ^ (dp - 1) < h - h / 2 ^ dp * 2 ^ dp ∨ (2 ^ (dp - 1) = h - h / 2 ^ dp * 2 ^ dp ∧ ((b ∨ 0 < rem) ∨ h / 2 ^ dp % 2 = 1)))
  rcases c with c | c
  · have := nt_main (kf := kf) (u := 1) hM ht hn hr hX hdp1 rfl rfl hb1 hb2 hp (Or.inl ⟨rfl, c⟩)
    rw [Nat.min_eq_left (by omega)] at this
    exact this
  · have := nt_main (kf := kf) (u := 0) hM ht hn hr hX hdp1 rfl rfl hb1 hb2 hp (Or.inr ⟨rfl, c⟩)
    rw [Nat.min_eq_left (by omega)] at this
    exact this
