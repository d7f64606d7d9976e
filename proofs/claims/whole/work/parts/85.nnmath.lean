/-! leading zeros; the reference's nearest -/
theorem bl_sh {a s : Nat} (h : 0 < a / 2 ^ s) : bl a = s + bl (a / 2 ^ s) := by
  obtain ⟨y, hy⟩ : ∃ y, y = a / 2 ^ s := ⟨_, rfl⟩
  rw [← hy] at h ⊢
  obtain ⟨h1, h2⟩ := dv_le (p2_pos s) hy
  have h3 := bl_lt y; have h4 := bl_le h; have h5 := bl_pos h
  apply bl_un
  · have : (y + 1) * 2 ^ s ≤ 2 ^ bl y * 2 ^ s := Nat.mul_le_mul_right _ h3
    rw [Nat.add_comm, Nat.pow_add]; omega
  · intro _
    have : 2 ^ (bl y - 1) * 2 ^ s ≤ y * 2 ^ s := Nat.mul_le_mul_right _ h4
    rw [show s + bl y - 1 = bl y - 1 + s by omega, Nat.pow_add]; omega
theorem bl_3 {y : Nat} (h0 : 0 < y) (h : y < 4) : bl y = y / 2 + 1 := by
  rcases (show y = 1 ∨ y = 2 ∨ y = 3 by omega) with rfl | rfl | rfl <;> (rw [bl_s (by decide)]; congr 1)
  · exact bl_0
  · rw [bl_s (by decide)]; exact congrArg (· + 1) bl_0
  · rw [bl_s (by decide)]; exact congrArg (· + 1) bl_0
theorem wb_cu3 : ∀ k, k < 32 → ((nI k).toUInt32 &&& Int32.toUInt32 31) = UInt32.ofNat k := by decide +kernel
theorem sh_i {n k : Nat} (hn : n < 2 ^ 31) (hk : k < 32) : ((iI (n : Int)).toUInt32 >>> ((iI (k : Int)).toUInt32 &&& Int32.toUInt32 31)).toInt32 = iI ((n / 2 ^ k : Nat) : Int) := by
  rw [iI_nat, iI_nat, iI_nat, wb_cu3 k hk]
  apply Int32.toBitVec_inj.mp
  apply BitVec.eq_of_toNat_eq
  show ((nI n).toUInt32 >>> UInt32.ofNat k).toNat = (BitVec.ofNat 32 _).toNat
  have h1 : (UInt32.ofNat k).toNat = k := by
    show (BitVec.ofNat 32 k).toNat = k
    rw [BitVec.toNat_ofNat, Nat.mod_eq_of_lt (by omega)]
  have h2 : (nI n).toUInt32.toNat = n := by
    show (BitVec.ofNat 32 n).toNat = n
    rw [BitVec.toNat_ofNat, Nat.mod_eq_of_lt (by omega)]
  have h3 := Nat.div_le_self n (2 ^ k)
  rw [UInt32.toNat_shiftRight, h1, h2, Nat.mod_eq_of_lt hk, Nat.shiftRight_eq_div_pow, BitVec.toNat_ofNat, Nat.mod_eq_of_lt (by omega)]
theorem iI_wrap (z : Int) : iI z = iI (z - 4294967296) := by
  apply Int32.toBitVec_inj.mp
  show BitVec.ofInt 32 _ = BitVec.ofInt 32 _
  apply BitVec.eq_of_toNat_eq
  rw [BitVec.toNat_ofInt, BitVec.toNat_ofInt]
  congr 1
  omega
theorem sar_l {a k : Nat} (ha : a < 2 ^ 63) (hk : k < 64) : jI (a : Int) >>> ((iI (k : Int)).toInt64 &&& 63) = jI ((a / 2 ^ k : Nat) : Int) := by
  rw [iI_nat, wb_c k hk, jI_nat, jI_nat]
  apply wb_inj
  rw [Int64.toBitVec_shiftRight, wb_tb, wb_tb, wb_tb, wb_sm k hk]
  apply BitVec.eq_of_toNat_eq
  have h3 := Nat.div_le_self a (2 ^ k)
  have hm : (BitVec.ofNat 64 a).msb = false := by
    rw [BitVec.msb_eq_false_iff_two_mul_lt, BitVec.toNat_ofNat, Nat.mod_eq_of_lt (by omega)]; omega
  rw [BitVec.sshiftRight_eq', BitVec.sshiftRight_eq_of_msb_false hm, BitVec.toNat_ushiftRight, BitVec.toNat_ofNat, BitVec.toNat_ofNat, BitVec.toNat_ofNat, Nat.mod_eq_of_lt (show a < 2 ^ 64 by omega), Nat.mod_eq_of_lt (show k < 2 ^ 64 by omega), Nat.shiftRight_eq_div_pow, Nat.mod_eq_of_lt (by omega)]
theorem or_s {a b k : Nat} (hb : b < 2 ^ k) (ha : a * 2 ^ k + b < 2 ^ 63) : jI ((a * 2 ^ k : Nat) : Int) ||| jI (b : Int) = jI ((a * 2 ^ k + b : Nat) : Int) := by
  rw [jI_nat, jI_nat, jI_nat, wb_or (by omega) (by omega)]
  congr 1
  have := Nat.two_pow_add_eq_or_of_lt hb a
  rw [Nat.mul_comm a, this]
def W42 : Nat := 1000000000 ^ 420
theorem W42_B : W42 = 1000000000 ^ 420 := rfl
theorem W42_pos : 0 < W42 := pB_pos 420
theorem W42_10 {Pn : Nat} (h : Pn = 3779) : W42 = 10 ^ (Pn + 1) := by rw [W42_B, pB_10]; congr 1; omega
theorem on_w {f : Nat → Int32} {fr to T : Nat} (h : de_ok f fr to T) (hfr : 43 ≤ fr) : wq T 43 * 1000000000 + wq T 44 = T / W42 ∧ T / W42 < 1000000000 * 1000000000 := by
  obtain ⟨h1, h2, h3, h4, h5, h6⟩ := h
  have hT : T < 1000000000 ^ 422 := Nat.lt_of_lt_of_le h4 (pB_le (by omega))
  have e : 1000000000 ^ 422 = 1000000000 * 1000000000 * W42 := by
    rw [W42_B, show 422 = 420 + 1 + 1 by omega, Nat.pow_succ, Nat.pow_succ, Nat.mul_comm, Nat.mul_comm (1000000000 ^ 420), Nat.mul_assoc]
  have hZ : T / W42 < 1000000000 * 1000000000 := by rw [Nat.div_lt_iff_lt_mul W42_pos, ← e]; exact hT
  refine ⟨?_, hZ⟩
  have e1 : wq T 44 = T / W42 % 1000000000 := by unfold wq; rw [W42_B]
  have e2 : wq T 43 = T / W42 / 1000000000 % 1000000000 := by
    unfold wq; rw [W42_B, Nat.div_div_eq_div_mul, ← Nat.pow_succ]
  rw [e1, e2]
  generalize T / W42 = Z at *
  omega
theorem p10_3 (k : Nat) : 10 ^ (3 * k) ≤ 2 ^ (10 * k) := by
  rw [Nat.pow_mul, Nat.pow_mul]; exact Nat.pow_le_pow_left (by decide) k
theorem e_bnd {T T0 e cz : Nat} (h : T * 2 ^ e = T0) (hT : W42 ≤ T) (h0 : T0 < 10 ^ cz) (hc : cz ≤ 4180) : e ≤ 1340 := by
  have h1 : 10 ^ 3780 * 2 ^ e < 10 ^ 4180 := by
    have a1 : W42 = 10 ^ 3780 := by rw [W42_B, pB_10]
    rw [← a1]
    exact Nat.lt_of_le_of_lt (Nat.mul_le_mul_right _ hT) (by rw [h]; exact Nat.lt_of_lt_of_le h0 (p10_le hc))
  have e1 : 10 ^ 4180 = 10 ^ 3780 * 10 ^ 400 := by rw [← Nat.pow_add]
  rw [e1] at h1
  have h2 : 2 ^ e < 10 ^ 400 := Nat.lt_of_mul_lt_mul_left h1
  have h3 : 10 ^ 400 ≤ 10 ^ (3 * 134) := p10_le (by decide)
  have h4 := p10_3 134
  have h5 := p2_lt (Nat.lt_of_lt_of_le h2 (Nat.le_trans h3 h4))
  omega
/-- what is left stays even where no word is left -/
theorem ev_65 {T T0 e c Y : Nat} (h : T * 2 ^ e = T0) (h0 : T0 = Y * 10 ^ c) (hc : e + 586 ≤ c) (hm : T % 1000000000 ^ 65 = 0) : T / 1000000000 ^ 65 % 2 = 0 := by
  obtain ⟨q, hq⟩ := Nat.dvd_of_mod_eq_zero hm
  rw [hq, Nat.mul_div_cancel_left _ (pB_pos 65)]
  have e1 : 1000000000 ^ 65 = 2 ^ 585 * 5 ^ 585 := by rw [pB_10, ← Nat.mul_pow]
  have e2 : 10 ^ c = 2 ^ e * (2 ^ 585 * (2 * 2 ^ (c - e - 586))) * 5 ^ c := by
    rw [← Nat.pow_succ', ← Nat.pow_add, ← Nat.pow_add, show e + (585 + (c - e - 586).succ) = c by omega, ← Nat.mul_pow]
  have o5 : 5 ^ 585 % 2 = 1 := by
    have : ∀ n, 5 ^ n % 2 = 1 := by
      intro n
      induction n with
      | zero => rfl
      | succ n ih => rw [Nat.pow_succ, Nat.mul_mod, ih]
    exact this 585
  have hpA := p2_pos 585
  generalize 2 ^ 585 = A at *
  generalize 5 ^ 585 = F at *
  generalize 2 ^ (c - e - 586) = Q2 at *
  generalize 5 ^ c = Q5 at *
  have e3 : 2 ^ e * A * (F * q) = 2 ^ e * A * (2 * (Q2 * Q5 * Y)) := by
    calc 2 ^ e * A * (F * q) = (A * F * q) * 2 ^ e := by ac_rfl
      _ = Y * 10 ^ c := by rw [← e1, ← hq, h, h0]
      _ = 2 ^ e * A * (2 * (Q2 * Q5 * Y)) := by rw [e2]; ac_rfl
  have e4 := Nat.eq_of_mul_eq_mul_left (Nat.mul_pos (p2_pos e) hpA) e3
  have h9 : F * q % 2 = 0 := by rw [e4, Nat.mul_mod_right]
  rw [Nat.mul_mod, o5, Nat.one_mul, Nat.mod_mod] at h9
  exact h9
theorem ev_T {T to : Nat} (h : T % 1000000000 ^ (465 - to) = 0) (ht : to ≤ 400) : T % 2 = 0 := by
  have h1 := pB_dvd (show 1 ≤ 465 - to by omega) h
  rw [Nat.pow_one] at h1
  omega
theorem fr_43 {T fr a : Nat} (h3 : 1000000000 ^ (464 - fr) ≤ T) (h : T < a * W42) (ha : a ≤ 1000000000 * 1000000000) : 43 ≤ fr := by
  rcases Nat.lt_or_ge fr 43 with z | z
  · exfalso
    have h1 : 1000000000 ^ 422 ≤ 1000000000 ^ (464 - fr) := pB_le (by omega)
    have e : 1000000000 ^ 422 = 1000000000 * 1000000000 * W42 := by
      rw [W42_B, show 422 = 420 + 1 + 1 by omega, Nat.pow_succ, Nat.pow_succ, Nat.mul_comm, Nat.mul_comm (1000000000 ^ 420), Nat.mul_assoc]
    have h2 := Nat.mul_le_mul_right W42 ha
    omega
  · exact z
theorem W_le {T fr : Nat} (h3 : 1000000000 ^ (464 - fr) ≤ T) (h : fr < 43) : W42 ≤ T :=
  Nat.le_trans (by rw [W42_B]; exact pB_le (by omega)) h3
/-- the state against the number asked for -/
theorem nn_rel {T T0 X kf E cz : Nat} {pt e : Int} (hkf : kf < 2) (hT : T * 2 ^ e.toNat = T0 * 2 ^ (-e).toNat) (h0 : T0 = X * 10 ^ (cz - dl X)) (hcz : (cz : Int) = pt + 3780) (hX : dl X ≤ cz) (he : e = lez kf + (E : Int)) :
    nP X (pt - ((dl X : Nat) : Int)) kf * W42 = T * (nM (pt - ((dl X : Nat) : Int)) * 2 ^ E) := by
  have hz := fz_all kf hkf
  have a1 : W42 = 10 ^ 3780 := by rw [W42_B, pB_10]
  rw [a1]
  unfold nP nM
  generalize hx : pt - ((dl X : Nat) : Int) = x
  generalize hN : 3780 = N at *
  have e1 : 10 ^ x.toNat * 10 ^ N = 10 ^ (cz - dl X) * 10 ^ (-x).toNat := by rw [← Nat.pow_add, ← Nat.pow_add]; congr 1; omega
  have e2 : 2 ^ (-lez kf).toNat * 2 ^ e.toNat = 2 ^ (-e).toNat * 2 ^ E := by rw [← Nat.pow_add, ← Nat.pow_add]; congr 1; omega
  apply Nat.eq_of_mul_eq_mul_right (p2_pos e.toNat)
  calc X * 10 ^ x.toNat * 2 ^ (-lez kf).toNat * 10 ^ N * 2 ^ e.toNat = X * (10 ^ x.toNat * 10 ^ N) * (2 ^ (-lez kf).toNat * 2 ^ e.toNat) := by ac_rfl
    _ = X * (10 ^ (cz - dl X) * 10 ^ (-x).toNat) * (2 ^ (-e).toNat * 2 ^ E) := by rw [e1, e2]
    _ = (X * 10 ^ (cz - dl X)) * 2 ^ (-e).toNat * (10 ^ (-x).toNat * 2 ^ E) := by ac_rfl
    _ = T0 * 2 ^ (-e).toNat * (10 ^ (-x).toNat * 2 ^ E) := by rw [h0]
    _ = (T * 2 ^ e.toNat) * (10 ^ (-x).toNat * 2 ^ E) := by rw [hT]
    _ = T * (10 ^ (-x).toNat * 2 ^ E) * 2 ^ e.toNat := by ac_rfl
theorem nn_up {P K T q d9 Pn : Nat} {b : Prop} {M E : Nat} (hPn : Pn = 3779) (hK : K = M * 2 ^ E) (hKp : 0 < K) (h : P * W42 = T * K) (hq : q = T / W42) (hd : d9 = T / 10 ^ Pn % 10) :
    upP P M E q b ↔ (5 < d9 ∨ (d9 = 5 ∧ ¬ T % 10 ^ Pn = 0) ∨ (d9 = 5 ∧ T % 10 ^ Pn = 0 ∧ (b ∨ q % 2 = 1))) := by
  have hW := W42_10 hPn
  have hWp := W42_pos
  unfold upP
  rw [← hK]
  have c1 := lt_cross (x := 2 * q + 1) hKp hWp h
  have c2 := eq_cross (x := 2 * q + 1) hKp hWp h
  have hVp := p10_pos Pn
  have hT1 := Nat.div_add_mod T W42
  have e2 : T % W42 = d9 * 10 ^ Pn + T % 10 ^ Pn := by
    have a1 := nb_mod 10 T Pn
    rw [hW, a1, hd, Nat.add_comm, Nat.mul_comm]
  have hG := Nat.mod_lt T hVp
  rw [← hq, e2] at hT1
  rw [Nat.pow_succ] at hW
  rw [c1, c2, Nat.add_mul, Nat.one_mul]
  have e3 : 2 * q * W42 = 2 * (W42 * q) := by rw [Nat.mul_assoc, Nat.mul_comm q]
  rw [e3]
  generalize W42 * q = Wq at *
  generalize T % 10 ^ Pn = G at *
  generalize hV : 10 ^ Pn = V at *
  have hd10 : d9 < 10 := by rw [hd]; exact Nat.mod_lt _ (by decide)
  have hT2 : T = Wq + (d9 * V + G) := hT1.symm
  rw [hW, hT2]
  clear hT1 hT2 e2 c1 c2 h hd hq hW e3
  have hcs : d9 = 0 ∨ d9 = 1 ∨ d9 = 2 ∨ d9 = 3 ∨ d9 = 4 ∨ d9 = 5 ∨ d9 = 6 ∨ d9 = 7 ∨ d9 = 8 ∨ d9 = 9 := by omega
  have f1 : 2 * Wq + V * 10 < 2 * (Wq + (d9 * V + G)) ↔ (5 < d9 ∨ (d9 = 5 ∧ ¬ G = 0)) := by
    rcases hcs with rfl | rfl | rfl | rfl | rfl | rfl | rfl | rfl | rfl | rfl <;> omega
  have f2 : 2 * Wq + V * 10 = 2 * (Wq + (d9 * V + G)) ↔ (d9 = 5 ∧ G = 0) := by
    rcases hcs with rfl | rfl | rfl | rfl | rfl | rfl | rfl | rfl | rfl | rfl <;> omega
  rw [f1, f2]
  constructor
  · rintro ((h | h) | ⟨⟨h1, h2⟩, h3⟩)
    · exact Or.inl h
    · exact Or.inr (Or.inl h)
    · exact Or.inr (Or.inr ⟨h1, h2, h3⟩)
  · rintro (h | h | ⟨h1, h2, h3⟩)
    · exact Or.inl (Or.inl h)
    · exact Or.inl (Or.inr h)
    · exact Or.inr ⟨⟨h1, h2⟩, h3⟩
theorem nn_nr {P K T q M E sz : Nat} (hK : K = M * 2 ^ E) (hKp : 0 < K) (h : P * W42 = T * K) (hq : q = T / W42) (h1 : q < 2 ^ sz) (h2 : 0 < E → 2 ^ (sz - 1) ≤ q) : nr sz P M E q :=
  ⟨by rw [hq, ← hK]; exact (dv_cross hKp W42_pos h).symm, h1, h2⟩
theorem nlz_s {a s y k : Nat} (hy : y = a / 2 ^ s) (hk : 2 ^ k ≤ y) (ha : a < 2147483648) : s + k ≤ 31 := by
  have h1 : 2 ^ (s + k) ≤ a := by
    rw [Nat.pow_add]
    exact Nat.le_trans (Nat.mul_le_mul_left _ hk) (by rw [hy]; exact Nat.mul_div_le a (2 ^ s))
  have h2 := p2_lt (show 2 ^ (s + k) < 2 ^ 31 by omega)
  omega
theorem rel_t {T T0 : Nat} {z : Int} (h : T * 2 ^ z.toNat = T0 * 2 ^ (-z).toNat) : 2 * T * 2 ^ (z - 1).toNat = T0 * 2 ^ (-(z - 1)).toNat := by
  rcases Int.lt_or_le 0 z with q | q
  · have e1 : z.toNat = (z - 1).toNat + 1 := by omega
    have e2 : (-(z - 1)).toNat = (-z).toNat := by omega
    rw [e2, ← h, e1, Nat.pow_succ]; ac_rfl
  · have e1 : (z - 1).toNat = z.toNat := by omega
    have e2 : (-(z - 1)).toNat = (-z).toNat + 1 := by omega
    rw [e1, e2, Nat.pow_succ, ← Nat.mul_assoc, ← h]; ac_rfl
theorem rel_0 {T T0 e : Nat} {z : Int} (hz : z = (e : Int)) (h : T * 2 ^ e = T0) : T * 2 ^ z.toNat = T0 * 2 ^ (-z).toNat := by
  rw [show z.toNat = e by omega, show (-z).toNat = 0 by omega, Nat.pow_zero, Nat.mul_one, h]
theorem q_tw {T a : Nat} (h : bl (T / W42) < a + 1) : 2 * T < 2 ^ (a + 1) * W42 ∧ 2 * T / W42 < 2 ^ (a + 1) := by
  have h1 := bl_iff.mp (show bl (T / W42) ≤ a by omega)
  rw [Nat.div_lt_iff_lt_mul W42_pos] at h1
  have h2 : 2 * T < 2 ^ (a + 1) * W42 := by rw [Nat.pow_succ, Nat.mul_right_comm]; omega
  exact ⟨h2, (Nat.div_lt_iff_lt_mul W42_pos).mpr h2⟩
theorem q_W {T a : Nat} (h : a < bl (T / W42)) : W42 ≤ T := by
  rcases Nat.lt_or_ge T W42 with z | z
  · rw [Nat.div_eq_of_lt z, bl_0] at h; omega
  · exact z
theorem t0_lt {X cz : Nat} (h : dl X ≤ cz) : X * 10 ^ (cz - dl X) < 10 ^ cz := by
  have h1 : X * 10 ^ (cz - dl X) < 10 ^ dl X * 10 ^ (cz - dl X) := Nat.mul_lt_mul_of_pos_right (dl_lt X) (p10_pos _)
  rw [← Nat.pow_add, show dl X + (cz - dl X) = cz by omega] at h1
  exact h1
theorem hf_e {T T0 e : Nat} (h2 : T % 2 = 0) (h : T * 2 ^ e = T0) : T / 2 * 2 ^ (e + 1) = T0 := by
  have h1 : T / 2 * 2 = T := by omega
  have e1 : T / 2 * 2 ^ (e + 1) = T / 2 * 2 * 2 ^ e := by rw [Nat.pow_succ]; ac_rfl
  rw [e1, h1, h]
theorem tj_s {X L j cz d : Nat} (hj : j < L) (hc : j < cz) (hd : d = X / 10 ^ (L - 1 - j) % 10) : X / 10 ^ (L - (j + 1)) * 10 ^ (cz - (j + 1)) = X / 10 ^ (L - j) * 10 ^ (cz - j) + d * 10 ^ (cz - 1 - j) := by
  have e1 : cz - j = cz - 1 - j + 1 := by omega
  rw [dg_first hj, ← hd, show cz - (j + 1) = cz - 1 - j by omega, e1, Nat.pow_succ, Nat.add_mul]
  congr 1
  ac_rfl
