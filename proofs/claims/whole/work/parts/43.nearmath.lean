/-! the nearest to V times 10 to ex, as the class makes it -/
def nP (V : Nat) (ex : Int) (kf : Nat) : Nat := V * 10 ^ ex.toNat * 2 ^ (-lez kf).toNat
def nM (ex : Int) : Nat := 10 ^ (-ex).toNat
theorem nM_pos (ex : Int) : 0 < nM ex := p10_pos _
theorem ns_zero (ex : Int) (kf : Nat) : 2 * nP 0 ex kf < nM ex := by
  have := nM_pos ex
  unfold nP
  simp
  exact this
theorem c_1075 : 2 ^ 1075 ≤ 10 ^ 331 := by decide +kernel
theorem c_310 : ∀ k, k < 2 → 2 ^ (fbz k + jz k) ≤ 10 ^ 310 * 2 ^ (-lez k).toNat := by decide +kernel
theorem ns_small {V L kf : Nat} {ex : Int} (hkf : kf < 2) (hV : V < 10 ^ L) (h : (L : Int) + ex < -330) : 2 * nP V ex kf < nM ex := by
  have hz := fz_all kf hkf
  unfold nP nM
  have e : ex.toNat = 0 := by omega
  rw [e, Nat.pow_zero, Nat.mul_one]
  have h1 : 2 ^ (-lez kf).toNat ≤ 2 ^ 1074 := Nat.pow_le_pow_right (by decide) (by omega)
  have h2 : V * 2 ^ (-lez kf).toNat < 10 ^ L * 2 ^ 1074 := Nat.lt_of_le_of_lt (Nat.mul_le_mul_left V h1) (Nat.mul_lt_mul_of_pos_right hV (p2_pos _))
  have h3 : 10 ^ L * 2 ^ 1074 * 2 ≤ 10 ^ (-ex).toNat := by
    rw [Nat.mul_assoc, ← Nat.pow_succ]
    refine Nat.le_trans (Nat.mul_le_mul_left _ c_1075) ?_
    rw [← Nat.pow_add]
    exact p10_le (by omega)
  omega
theorem ns_large {V L kf : Nat} {ex : Int} {b : Prop} (hkf : kf < 2) (hL : 0 < L) (hV : 10 ^ (L - 1) ≤ V) (h : 310 < (L : Int) + ex) : NR (fbz kf + 1) (ifz kf) (nP V ex kf) (nM ex) b (ifz kf) := by
  have hz := fz_all kf hkf
  refine NR_large (j := jz kf) (by omega) (by omega) (by rw [Nat.add_sub_cancel]; exact ifz_eq kf hkf) ?_
  have h1 : 2 ^ (fbz kf + jz kf) * nM ex ≤ nP V ex kf := by
    unfold nP nM
    have a1 : 10 ^ 310 * 10 ^ (-ex).toNat ≤ V * 10 ^ ex.toNat := by
      refine Nat.le_trans ?_ (Nat.mul_le_mul_right _ hV)
      rw [← Nat.pow_add, ← Nat.pow_add]
      exact p10_le (by omega)
    have a2 := Nat.mul_le_mul_right (10 ^ (-ex).toNat) (c_310 kf hkf)
    refine Nat.le_trans a2 ?_
    rw [Nat.mul_right_comm]
    exact Nat.mul_le_mul_right _ a1
  have h2 : 2 ^ (fbz kf + jz kf) ≤ nP V ex kf / nM ex := (Nat.le_div_iff_mul_le (nM_pos ex)).mpr h1
  have := bl_ge h2
  omega
theorem bt_all : ∀ i : Nat, i < 641 → 10 ^ ((i : Int) - 330).toNat * 2 ^ (60 - ((i : Int) - 330) * 217706 / 65536).toNat ≤ 2 ^ 62 * 10 ^ (330 - (i : Int)).toNat * 2 ^ (((i : Int) - 330) * 217706 / 65536 - 60).toNat ∧
    2 ^ 56 * 10 ^ ((330 - (i : Int)).toNat + 1) * 2 ^ (((i : Int) - 330) * 217706 / 65536 - 60).toNat ≤ 10 ^ ((i : Int) - 330).toNat * 2 ^ (60 - ((i : Int) - 330) * 217706 / 65536).toNat := by decide +kernel
theorem bt_ok {p k : Int} (hp : -330 ≤ p ∧ p ≤ 310) (hk : k = 60 - p * 217706 / 65536) : 10 ^ p.toNat * 2 ^ k.toNat ≤ 2 ^ 62 * 10 ^ (-p).toNat * 2 ^ (-k).toNat ∧ 2 ^ 56 * 10 ^ ((-p).toNat + 1) * 2 ^ (-k).toNat ≤ 10 ^ p.toNat * 2 ^ k.toNat := by
  have h := bt_all (p + 330).toNat (by omega)
  have e1 : (((p + 330).toNat : Nat) : Int) - 330 = p := by omega
  have e2 : 330 - (((p + 330).toNat : Nat) : Int) = -p := by omega
  have e3 : p * 217706 / 65536 - 60 = -k := by omega
  rw [e1, e2, e3, ← hk] at h
  exact h
section NearC
variable {V L kp km ep em up um a b : Nat}
theorem nc_w (h1 : km + up + em = um + ep) : V * (2 ^ kp * 5 ^ km) * 10 ^ up * (2 ^ km * 10 ^ em * 10 ^ b) = V * (2 ^ kp * 10 ^ um * 10 ^ ep * 10 ^ b) := by
  have e : 5 ^ km * 2 ^ km * 10 ^ up * 10 ^ em = 10 ^ um * 10 ^ ep := by
    rw [← Nat.mul_pow, show 5 * 2 = 10 from rfl, ← Nat.pow_add, ← Nat.pow_add, ← Nat.pow_add, h1]
  calc V * (2 ^ kp * 5 ^ km) * 10 ^ up * (2 ^ km * 10 ^ em * 10 ^ b) = (5 ^ km * 2 ^ km * 10 ^ up * 10 ^ em) * (V * 2 ^ kp * 10 ^ b) := by ac_rfl
    _ = (10 ^ um * 10 ^ ep) * (V * 2 ^ kp * 10 ^ b) := by rw [e]
    _ = V * (2 ^ kp * 10 ^ um * 10 ^ ep * 10 ^ b) := by ac_rfl
theorem nc_v (h2 : L + ep + b = a + em) : 10 ^ L * (2 ^ kp * 10 ^ um * 10 ^ ep * 10 ^ b) = 10 ^ a * 2 ^ kp * (10 ^ em * 10 ^ um) := by
  have e : 10 ^ L * 10 ^ ep * 10 ^ b = 10 ^ a * 10 ^ em := by rw [← Nat.pow_add, ← Nat.pow_add, ← Nat.pow_add, h2]
  calc 10 ^ L * (2 ^ kp * 10 ^ um * 10 ^ ep * 10 ^ b) = (10 ^ L * 10 ^ ep * 10 ^ b) * (2 ^ kp * 10 ^ um) := by ac_rfl
    _ = (10 ^ a * 10 ^ em) * (2 ^ kp * 10 ^ um) := by rw [e]
    _ = 10 ^ a * 2 ^ kp * (10 ^ em * 10 ^ um) := by ac_rfl
theorem nc_hi (h1 : km + up + em = um + ep) (h2 : L + ep + b = a + em) (hV : V < 10 ^ L) (hb : 10 ^ a * 2 ^ kp ≤ 2 ^ 62 * 10 ^ b * 2 ^ km) : V * (2 ^ kp * 5 ^ km) * 10 ^ up < 2 ^ 62 * 10 ^ um := by
  have hW : 0 < 2 ^ km * 10 ^ em * 10 ^ b := Nat.mul_pos (Nat.mul_pos (p2_pos _) (p10_pos _)) (p10_pos _)
  apply Nat.lt_of_mul_lt_mul_right (a := 2 ^ km * 10 ^ em * 10 ^ b)
  rw [nc_w h1]
  have hZ : 0 < 2 ^ kp * 10 ^ um * 10 ^ ep * 10 ^ b := Nat.mul_pos (Nat.mul_pos (Nat.mul_pos (p2_pos _) (p10_pos _)) (p10_pos _)) (p10_pos _)
  refine Nat.lt_of_lt_of_le (Nat.mul_lt_mul_of_pos_right hV hZ) ?_
  rw [nc_v h2]
  refine Nat.le_trans (Nat.mul_le_mul_right _ hb) (Nat.le_of_eq ?_)
  ac_rfl
theorem nc_lo (h1 : km + up + em = um + ep) (h2 : L + ep + b = a + em) (hL : 0 < L) (hV : 10 ^ (L - 1) ≤ V) (hb : 2 ^ 56 * 10 ^ (b + 1) * 2 ^ km ≤ 10 ^ a * 2 ^ kp) : 2 ^ 56 * 10 ^ um ≤ V * (2 ^ kp * 5 ^ km) * 10 ^ up := by
  have hW : 0 < 2 ^ km * 10 ^ em * 10 ^ b := Nat.mul_pos (Nat.mul_pos (p2_pos _) (p10_pos _)) (p10_pos _)
  have hW2 : 0 < 2 ^ km * 10 ^ em * 10 ^ b * 10 := Nat.mul_pos hW (by decide)
  apply Nat.le_of_mul_le_mul_right (c := 2 ^ km * 10 ^ em * 10 ^ b * 10) _ hW2
  have e1 : V * (2 ^ kp * 5 ^ km) * 10 ^ up * (2 ^ km * 10 ^ em * 10 ^ b * 10) = (V * 10) * (2 ^ kp * 10 ^ um * 10 ^ ep * 10 ^ b) := by
    rw [← Nat.mul_assoc (V * (2 ^ kp * 5 ^ km) * 10 ^ up), nc_w h1]; ac_rfl
  rw [e1]
  have e2 : 10 ^ L ≤ V * 10 := by
    have : L = L - 1 + 1 := by omega
    rw [this, Nat.pow_succ]; exact Nat.mul_le_mul_right _ hV
  refine Nat.le_trans ?_ (Nat.mul_le_mul_right _ e2)
  rw [nc_v h2]
  refine Nat.le_trans (Nat.le_of_eq ?_) (Nat.mul_le_mul_right _ hb)
  rw [Nat.pow_succ 10 b]; ac_rfl
theorem nc_x {Lz dp E : Nat} (h1 : km + up + em = um + ep) (h3 : Lz + dp + km = kp + E) : V * 10 ^ ep * 2 ^ Lz * (10 ^ um * 2 ^ dp) = V * (2 ^ kp * 5 ^ km) * 10 ^ up * (10 ^ em * 2 ^ E) := by
  have e1 : 10 ^ um * 10 ^ ep = 5 ^ km * 2 ^ km * 10 ^ up * 10 ^ em := by
    rw [← Nat.mul_pow, show 5 * 2 = 10 from rfl, ← Nat.pow_add, ← Nat.pow_add, ← Nat.pow_add, h1]
  have e2 : 2 ^ Lz * 2 ^ dp * 2 ^ km = 2 ^ kp * 2 ^ E := by rw [← Nat.pow_add, ← Nat.pow_add, ← Nat.pow_add, h3]
  calc V * 10 ^ ep * 2 ^ Lz * (10 ^ um * 2 ^ dp) = (10 ^ um * 10 ^ ep) * (V * (2 ^ Lz * 2 ^ dp)) := by ac_rfl
    _ = (5 ^ km * 2 ^ km * 10 ^ up * 10 ^ em) * (V * (2 ^ Lz * 2 ^ dp)) := by rw [e1]
    _ = (2 ^ Lz * 2 ^ dp * 2 ^ km) * (V * 5 ^ km * 10 ^ up * 10 ^ em) := by ac_rfl
    _ = (2 ^ kp * 2 ^ E) * (V * 5 ^ km * 10 ^ up * 10 ^ em) := by rw [e2]
    _ = V * (2 ^ kp * 5 ^ km) * 10 ^ up * (10 ^ em * 2 ^ E) := by ac_rfl
end NearC
theorem fd_num (V : Nat) (u : Int) : fd V (((dl V : Nat) : Int) + u).toNat = V * 10 ^ u.toNat / 10 ^ (-u).toNat := by
  unfold fd
  rcases Int.le_total 0 u with h | h
  · have e1 : (-u).toNat = 0 := by omega
    rw [e1, Nat.pow_zero, Nat.div_one]
    rcases Nat.eq_zero_or_pos u.toNat with z | z
    · rw [if_pos (by omega), z, Nat.pow_zero, Nat.mul_one]
      have : dl V - (((dl V : Nat) : Int) + u).toNat = 0 := by omega
      rw [this, Nat.pow_zero, Nat.div_one]
    · rw [if_neg (by omega)]
      have : (((dl V : Nat) : Int) + u).toNat - dl V = u.toNat := by omega
      rw [this]
  · have e1 : u.toNat = 0 := by omega
    rw [e1, Nat.pow_zero, Nat.mul_one, if_pos (by omega)]
    rcases Nat.lt_or_ge (dl V) (-u).toNat with z | z
    · have e2 : dl V - (((dl V : Nat) : Int) + u).toNat = dl V := by omega
      rw [e2, Nat.div_eq_of_lt (dl_lt V), Nat.div_eq_of_lt (Nat.lt_of_lt_of_le (dl_lt V) (p10_le (by omega)))]
    · have e2 : dl V - (((dl V : Nat) : Int) + u).toNat = (-u).toNat := by omega
      rw [e2]
theorem hdb_num (V : Nat) (u : Int) : (hdb V (-u) = 1 ∧ 0 < V * 10 ^ u.toNat % 10 ^ (-u).toNat) ∨ (hdb V (-u) = 0 ∧ V * 10 ^ u.toNat % 10 ^ (-u).toNat = 0) := by
  unfold hdb
  rcases Int.le_total 0 u with h | h
  · have e1 : (-u).toNat = 0 := by omega
    rw [e1, Nat.pow_zero]
    simp [Nat.mod_one]
  · have e1 : u.toNat = 0 := by omega
    rw [e1, Nat.pow_zero, Nat.mul_one]
    split
    · rename_i z; exact Or.inr ⟨rfl, z⟩
    · rename_i z; exact Or.inl ⟨rfl, by omega⟩
theorem nr_room {V : Nat} {k : Int} (h : dl V ≤ 1200) (hk : -1200 ≤ k ∧ k ≤ 1200) : V * tw2 k < 1000000000 ^ 306 := sh_room h (by omega)
