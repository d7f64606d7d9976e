/-! what reads back with some digits does with one more; seventeen are enough -/
theorem NR_ex {sz inf P M : Nat} {b : Prop} (hs : 0 < sz) : ∃ r, NR sz inf P M b r := by
  obtain ⟨E, q, h1, -⟩ := nr_ex sz P M hs
  by_cases hu : upP P M E q b
  · exact ⟨_, E, q, 1, h1, Or.inl ⟨rfl, hu⟩, rfl⟩
  · exact ⟨_, E, q, 0, h1, Or.inr ⟨rfl, hu⟩, rfl⟩
theorem RB_iff {v kf E m : Nat} {ex : Int} (hkf : kf < 2) (hm : 0 < m) (hm2 : m < 2 ^ (fbz kf + 1)) (hc : 0 < E → 2 ^ fbz kf ≤ m) (hinf : E * 2 ^ fbz kf + m < ifz kf) : RB v ex kf (E * 2 ^ fbz kf + m) ↔ inI (fbz kf + 1) (nP v ex kf) (nM ex) E m := by
  have hz := fz_all kf hkf
  have e : fbz kf + 1 - 1 = fbz kf := Nat.add_sub_cancel _ _
  constructor
  · intro h
    exact rb_of (by omega) (nM_pos ex) h hm hm2 (by rw [e]; exact hc) (by rw [e]; exact hinf) (by rw [e])
  · intro h
    obtain ⟨r, hr⟩ := NR_ex (sz := fbz kf + 1) (inf := ifz kf) (P := nP v ex kf) (M := nM ex) (b := False) (by omega)
    have := rb_to (by omega) (nM_pos ex) hr hm hm2 (by rw [e]; exact hc) (by rw [e]; exact hinf) h
    rw [e] at this
    rw [← this]; exact hr
/-- one denominator for all of them -/
def nC (e : Int) (kf : Nat) : Nat := 10 ^ e.toNat * 2 ^ (-lez kf).toNat
theorem nP_C (w : Nat) (e : Int) (kf : Nat) : nP w e kf = w * nC e kf := by unfold nP nC; rw [Nat.mul_assoc]
theorem nC_pos (e : Int) (kf : Nat) : 0 < nC e kf := Nat.mul_pos (p10_pos _) (p2_pos _)
theorem nP_sc (v i : Nat) (e : Int) (kf : Nat) : nP v (e + (i : Int)) kf * nM e = nP (v * 10 ^ i) e kf * nM (e + (i : Int)) := by
  unfold nP nM
  have h : 10 ^ (e + (i : Int)).toNat * 10 ^ (-e).toNat = 10 ^ i * 10 ^ e.toNat * 10 ^ (-(e + (i : Int))).toNat := by
    rw [← Nat.pow_add, ← Nat.pow_add, ← Nat.pow_add]; congr 1; omega
  calc v * 10 ^ (e + (i : Int)).toNat * 2 ^ (-lez kf).toNat * 10 ^ (-e).toNat = (10 ^ (e + (i : Int)).toNat * 10 ^ (-e).toNat) * (v * 2 ^ (-lez kf).toNat) := by ac_rfl
    _ = (10 ^ i * 10 ^ e.toNat * 10 ^ (-(e + (i : Int))).toNat) * (v * 2 ^ (-lez kf).toNat) := by rw [h]
    _ = v * 10 ^ i * 10 ^ e.toNat * 2 ^ (-lez kf).toNat * 10 ^ (-(e + (i : Int))).toNat := by ac_rfl
theorem inI_sc {sz P M P' M' E m : Nat} (hM : 0 < M) (hM' : 0 < M') (h : P * M' = P' * M) : inI sz P M E m ↔ inI sz P' M' E m := by
  have hB : 0 < M * 2 ^ E := Nat.mul_pos hM (p2_pos _)
  have hB' : 0 < M' * 2 ^ E := Nat.mul_pos hM' (p2_pos _)
  have h2 : P * (M' * 2 ^ E) = P' * (M * 2 ^ E) := by rw [← Nat.mul_assoc, h, Nat.mul_assoc]
  have L : ∀ x, x * (M * 2 ^ E) < 2 * P ↔ x * (M' * 2 ^ E) < 2 * P' := fun x => lt_cross hB hB' h2
  have Q : ∀ x, x * (M * 2 ^ E) = 2 * P ↔ x * (M' * 2 ^ E) = 2 * P' := fun x => eq_cross hB hB' h2
  have G : ∀ x, 2 * P < x * (M * 2 ^ E) ↔ 2 * P' < x * (M' * 2 ^ E) := fun x => by
    have a := L x; have b := Q x
    rcases Nat.lt_trichotomy (x * (M * 2 ^ E)) (2 * P) with z | z | z
    · have := a.mp z; omega
    · have := b.mp z; omega
    · have c1 : ¬ x * (M' * 2 ^ E) < 2 * P' := fun y => by have := a.mpr y; omega
      have c2 : ¬ x * (M' * 2 ^ E) = 2 * P' := fun y => by have := b.mpr y; omega
      omega
  have F : ∀ x, x * (M * 2 ^ E) ≤ 4 * P ↔ x * (M' * 2 ^ E) ≤ 4 * P' := fun x => by
    have h3 : (2 * P) * (M' * 2 ^ E) = (2 * P') * (M * 2 ^ E) := by rw [Nat.mul_assoc, h2, Nat.mul_assoc]
    have a := lt_cross (x := x) hB hB' h3
    have b := eq_cross (x := x) hB hB' h3
    have e1 : 2 * (2 * P) = 4 * P := by omega
    have e2 : 2 * (2 * P') = 4 * P' := by omega
    rw [e1, e2] at a b
    omega
  unfold inI
  have q1 : (2 * P = (2 * m + 1) * (M * 2 ^ E)) ↔ (2 * P' = (2 * m + 1) * (M' * 2 ^ E)) := by rw [eq_comm, Q, eq_comm]
  rw [G, q1, L, Q, F]
section ShM
variable {sz X C M E m : Nat}
/-- between one that reads back and the exact one -/
theorem sh_lo {w w1 : Nat} (hm : 0 < m) (hM : 0 < M) (hX : X * C = m * (M * 2 ^ E)) (h1 : w1 ≤ w) (h2 : w ≤ X) (h : inI sz (w1 * C) M E m) : inI sz (w * C) M E m := by
  have hK : 0 < M * 2 ^ E := Nat.mul_pos hM (p2_pos _)
  have a1 : w1 * C ≤ w * C := Nat.mul_le_mul_right _ h1
  have a2 : w * C ≤ m * (M * 2 ^ E) := by rw [← hX]; exact Nat.mul_le_mul_right _ h2
  have e0 : (2 * m + 1) * (M * 2 ^ E) = 2 * (m * (M * 2 ^ E)) + M * 2 ^ E := by rw [Nat.add_mul, Nat.mul_assoc]; omega
  obtain ⟨-, lo⟩ := h
  refine ⟨Or.inl (by omega), ?_⟩
  rcases lo with ⟨l1, l2, l3⟩ | ⟨l1, l2⟩
  · exact Or.inl ⟨l1, l2, by omega⟩
  · refine Or.inr ⟨l1, ?_⟩
    rcases l2 with z | ⟨z, z2⟩
    · exact Or.inl (by omega)
    · rcases Nat.lt_or_ge ((2 * m - 1) * (M * 2 ^ E)) (2 * (w * C)) with y | y
      · exact Or.inl y
      · exact Or.inr ⟨by omega, z2⟩
theorem sh_hi {w w1 : Nat} (hm : 0 < m) (hM : 0 < M) (hX : X * C = m * (M * 2 ^ E)) (h1 : w ≤ w1) (h2 : X ≤ w) (h : inI sz (w1 * C) M E m) : inI sz (w * C) M E m := by
  have hK : 0 < M * 2 ^ E := Nat.mul_pos hM (p2_pos _)
  have a1 : w * C ≤ w1 * C := Nat.mul_le_mul_right _ h1
  have a2 : m * (M * 2 ^ E) ≤ w * C := by rw [← hX]; exact Nat.mul_le_mul_right _ h2
  have e1 : (2 * m - 1) * (M * 2 ^ E) + (M * 2 ^ E) = 2 * (m * (M * 2 ^ E)) := by
    have b1 : (2 * m - 1) * (M * 2 ^ E) + (M * 2 ^ E) = (2 * m - 1 + 1) * (M * 2 ^ E) := by rw [Nat.add_mul, Nat.one_mul]
    have b2 : 2 * m - 1 + 1 = 2 * m := by omega
    rw [b1, b2, Nat.mul_assoc]
  have e4 : (4 * m - 1) * (M * 2 ^ E) ≤ 4 * (m * (M * 2 ^ E)) := by
    have z4 : (4 * m - 1) * (M * 2 ^ E) ≤ 4 * m * (M * 2 ^ E) := Nat.mul_le_mul_right _ (by omega)
    rw [Nat.mul_assoc] at z4; exact z4
  obtain ⟨hi, -⟩ := h
  refine ⟨?_, ?_⟩
  · rcases hi with z | ⟨z, z2⟩
    · exact Or.inl (by omega)
    · rcases Nat.lt_or_ge (2 * (w * C)) ((2 * m + 1) * (M * 2 ^ E)) with y | y
      · exact Or.inl y
      · exact Or.inr ⟨by omega, z2⟩
  · by_cases c : m = 2 ^ (sz - 1) ∧ 0 < E
    · exact Or.inl ⟨c.1, c.2, by omega⟩
    · exact Or.inr ⟨c, Or.inl (by omega)⟩
/-- near enough below, near enough above -/
theorem sh_nb {r : Nat} (hm : 0 < m) (hM : 0 < M) (hC : 0 < C) (hX : X * C = m * (M * 2 ^ E)) (hr : r ≤ X) (h1 : 2 * r * m < X) (h2 : m = 2 ^ (sz - 1) → 4 * r * m ≤ X) : inI sz ((X - r) * C) M E m := by
  have hK : 0 < M * 2 ^ E := Nat.mul_pos hM (p2_pos _)
  have d1 : (X - r) * C + r * C = m * (M * 2 ^ E) := by rw [← Nat.add_mul, Nat.sub_add_cancel hr, hX]
  have e0 : (2 * m + 1) * (M * 2 ^ E) = 2 * (m * (M * 2 ^ E)) + M * 2 ^ E := by rw [Nat.add_mul, Nat.mul_assoc]; omega
  have e1 : (2 * m - 1) * (M * 2 ^ E) + (M * 2 ^ E) = 2 * (m * (M * 2 ^ E)) := by
    have b1 : (2 * m - 1) * (M * 2 ^ E) + (M * 2 ^ E) = (2 * m - 1 + 1) * (M * 2 ^ E) := by rw [Nat.add_mul, Nat.one_mul]
    have b2 : 2 * m - 1 + 1 = 2 * m := by omega
    rw [b1, b2, Nat.mul_assoc]
  have e4 : (4 * m - 1) * (M * 2 ^ E) + (M * 2 ^ E) = 4 * (m * (M * 2 ^ E)) := by
    have b1 : (4 * m - 1) * (M * 2 ^ E) + (M * 2 ^ E) = (4 * m - 1 + 1) * (M * 2 ^ E) := by rw [Nat.add_mul, Nat.one_mul]
    have b2 : 4 * m - 1 + 1 = 4 * m := by omega
    rw [b1, b2, Nat.mul_assoc]
  have k1 : 2 * (r * C) < M * 2 ^ E := by
    have : 2 * r * m * C < X * C := Nat.mul_lt_mul_of_pos_right h1 hC
    rw [hX] at this
    have e : 2 * r * m * C = m * (2 * (r * C)) := by ac_rfl
    rw [e] at this
    exact Nat.lt_of_mul_lt_mul_left this
  refine ⟨Or.inl (by omega), ?_⟩
  by_cases c : m = 2 ^ (sz - 1) ∧ 0 < E
  · refine Or.inl ⟨c.1, c.2, ?_⟩
    have k2 : 4 * (r * C) ≤ M * 2 ^ E := by
      have : 4 * r * m * C ≤ X * C := Nat.mul_le_mul_right _ (h2 c.1)
      rw [hX] at this
      have e : 4 * r * m * C = m * (4 * (r * C)) := by ac_rfl
      rw [e] at this
      exact Nat.le_of_mul_le_mul_left this hm
    omega
  · exact Or.inr ⟨c, Or.inl (by omega)⟩
theorem sh_na {r : Nat} (hm : 0 < m) (hM : 0 < M) (hC : 0 < C) (hX : X * C = m * (M * 2 ^ E)) (h1 : 2 * r * m < X) : inI sz ((X + r) * C) M E m := by
  have hK : 0 < M * 2 ^ E := Nat.mul_pos hM (p2_pos _)
  have d1 : (X + r) * C = m * (M * 2 ^ E) + r * C := by rw [Nat.add_mul, hX]
  have e0 : (2 * m + 1) * (M * 2 ^ E) = 2 * (m * (M * 2 ^ E)) + M * 2 ^ E := by rw [Nat.add_mul, Nat.mul_assoc]; omega
  have k1 : 2 * (r * C) < M * 2 ^ E := by
    have : 2 * r * m * C < X * C := Nat.mul_lt_mul_of_pos_right h1 hC
    rw [hX] at this
    have e : 2 * r * m * C = m * (2 * (r * C)) := by ac_rfl
    rw [e] at this
    exact Nat.lt_of_mul_lt_mul_left this
  refine (sh_hi (w1 := X + r) hm hM hX (Nat.le_refl _) (by omega) ⟨Or.inl (by omega), ?_⟩)
  have e1 : (2 * m - 1) * (M * 2 ^ E) + (M * 2 ^ E) = 2 * (m * (M * 2 ^ E)) := by
    have b1 : (2 * m - 1) * (M * 2 ^ E) + (M * 2 ^ E) = (2 * m - 1 + 1) * (M * 2 ^ E) := by rw [Nat.add_mul, Nat.one_mul]
    have b2 : 2 * m - 1 + 1 = 2 * m := by omega
    rw [b1, b2, Nat.mul_assoc]
  have e4 : (4 * m - 1) * (M * 2 ^ E) ≤ 4 * (m * (M * 2 ^ E)) := by
    have z4 : (4 * m - 1) * (M * 2 ^ E) ≤ 4 * m * (M * 2 ^ E) := Nat.mul_le_mul_right _ (by omega)
    rw [Nat.mul_assoc] at z4; exact z4
  by_cases c : m = 2 ^ (sz - 1) ∧ 0 < E
  · exact Or.inl ⟨c.1, c.2, by omega⟩
  · exact Or.inr ⟨c, Or.inl (by omega)⟩
end ShM
/-- what a finite double or float is: (E, m), and that X times 10 to (pt - dl X) is just it -/
def EXA (X : Nat) (pt : Int) (kf E m : Nat) : Prop := 0 < X ∧ 0 < m ∧ m < 2 ^ (fbz kf + 1) ∧ (0 < E → 2 ^ fbz kf ≤ m) ∧ E * 2 ^ fbz kf + m < ifz kf ∧ nP X (pt - ((dl X : Nat) : Int)) kf = m * (nM (pt - ((dl X : Nat) : Int)) * 2 ^ E)
/-- n digits, counted in the last place of X -/
theorem RB_w {X v n kf E m : Nat} {pt : Int} (hkf : kf < 2) (hx : EXA X pt kf E m) (hn : n ≤ dl X) : RB v (pt - (n : Int)) kf (E * 2 ^ fbz kf + m) ↔ inI (fbz kf + 1) (v * 10 ^ (dl X - n) * nC (pt - ((dl X : Nat) : Int)) kf) (nM (pt - ((dl X : Nat) : Int))) E m := by
  obtain ⟨hX, hm, hm2, hc, hinf, hex⟩ := hx
  rw [RB_iff hkf hm hm2 hc hinf, ← nP_C]
  have e : pt - (n : Int) = pt - ((dl X : Nat) : Int) + ((dl X - n : Nat) : Int) := by omega
  have := nP_sc v (dl X - n) (pt - ((dl X : Nat) : Int)) kf
  rw [← e] at this
  exact inI_sc (nM_pos _) (nM_pos _) this
theorem nb_dn (X n : Nat) : X / 10 ^ (dl X - n) * 10 ^ (dl X - n) ≤ X ∧ X < (X / 10 ^ (dl X - n) + 1) * 10 ^ (dl X - n) := dv_le (p10_pos _) rfl
theorem nb_mono {X n j : Nat} (h : j ≤ n) (hn : n ≤ dl X) : X / 10 ^ (dl X - j) * 10 ^ (dl X - j) ≤ X / 10 ^ (dl X - n) * 10 ^ (dl X - n) ∧ (X / 10 ^ (dl X - n) + 1) * 10 ^ (dl X - n) ≤ (X / 10 ^ (dl X - j) + 1) * 10 ^ (dl X - j) := by
  have e : dl X - j = (dl X - n) + (n - j) := by omega
  have e2 : 10 ^ (dl X - j) = 10 ^ (n - j) * 10 ^ (dl X - n) := by rw [← Nat.pow_add]; congr 1; omega
  obtain ⟨a1, a2⟩ := dv_le (p10_pos (n - j)) (rfl : X / 10 ^ (dl X - n) / 10 ^ (n - j) = X / 10 ^ (dl X - n) / 10 ^ (n - j))
  have e3 : X / 10 ^ (dl X - j) = X / 10 ^ (dl X - n) / 10 ^ (n - j) := by rw [e, Nat.pow_add, Nat.div_div_eq_div_mul]
  rw [e3, e2, ← Nat.mul_assoc, ← Nat.mul_assoc]
  exact ⟨Nat.mul_le_mul_right _ a1, Nat.mul_le_mul_right _ a2⟩
theorem NB_mono {X n j kf E m : Nat} {pt : Int} (hkf : kf < 2) (hx : EXA X pt kf E m) (hj : j ≤ n) (hn : n ≤ dl X) (h : NBno X n (pt - (n : Int)) kf (E * 2 ^ fbz kf + m)) : NBno X j (pt - (j : Int)) kf (E * 2 ^ fbz kf + m) := by
  obtain ⟨h1, h2⟩ := h
  rw [RB_w hkf hx hn] at h1 h2
  obtain ⟨b1, b2⟩ := nb_mono hj hn
  obtain ⟨c1, c2⟩ := nb_dn X n
  have hx0 := hx
  obtain ⟨hX, hm, -, -, -, hex⟩ := hx
  rw [nP_C] at hex
  refine ⟨fun z => h1 ?_, fun z => h2 ?_⟩
  · rw [RB_w hkf hx0 (by omega)] at z
    exact sh_lo hm (nM_pos _) hex b1 c1 z
  · rw [RB_w hkf hx0 (by omega)] at z
    exact sh_hi hm (nM_pos _) hex b2 (Nat.le_of_lt c2) z
theorem NB_17 {X kf E m : Nat} {pt : Int} (hkf : kf < 2) (hx : EXA X pt kf E m) (hL : 17 < dl X) : ¬ NBno X 17 (pt - ((17 : Nat) : Int)) kf (E * 2 ^ fbz kf + m) := by
  rintro ⟨h1, h2⟩
  rw [RB_w hkf hx (by omega)] at h1 h2
  obtain ⟨c1, c2⟩ := nb_dn X 17
  have hx0 := hx
  obtain ⟨hX, hm, hm2, -, -, hex⟩ := hx
  rw [nP_C] at hex
  have hz := fz_all kf hkf
  have hm53 : m < 2 ^ 53 := Nat.lt_of_lt_of_le hm2 (Nat.pow_le_pow_right (by decide) (by omega))
  have hm52 : m = 2 ^ (fbz kf + 1 - 1) → m ≤ 2 ^ 52 := fun z => by rw [z]; exact Nat.pow_le_pow_right (by decide) (by omega)
  obtain ⟨u, hu⟩ : ∃ u, u = 10 ^ (dl X - 17) := ⟨_, rfl⟩
  have hX2 : 10 ^ 16 * u ≤ X := by
    have := dl_le hX
    rw [hu, ← Nat.pow_add]
    have e : 16 + (dl X - 17) = dl X - 1 := by omega
    rw [e]; exact this
  have hup : 0 < u := by rw [hu]; exact p10_pos _
  rw [← hu] at h1 h2 c1 c2
  obtain ⟨b, hb⟩ : ∃ b, b = X / u := ⟨_, rfl⟩
  rw [← hb] at h1 h2 c1 c2
  rw [Nat.add_mul, Nat.one_mul] at c2
  rcases Nat.lt_or_ge u (2 * (X - b * u)) with z | z
  · -- above is nearer
    apply h2
    have e : (b + 1) * u = X + ((b + 1) * u - X) := by rw [Nat.add_mul]; omega
    rw [e]
    refine sh_na hm (nM_pos _) (nC_pos _ _) hex ?_
    have e2 : 2 * ((b + 1) * u - X) ≤ u := by rw [Nat.add_mul, Nat.one_mul]; omega
    have e3 : 2 * ((b + 1) * u - X) * m ≤ u * m := Nat.mul_le_mul_right _ e2
    have e4 : u * m < u * 2 ^ 53 := Nat.mul_lt_mul_of_pos_left hm53 hup
    omega
  · apply h1
    have e : b * u = X - (X - b * u) := by omega
    rw [e]
    refine sh_nb hm (nM_pos _) (nC_pos _ _) hex (by omega) ?_ ?_
    · have e3 : 2 * (X - b * u) * m ≤ u * m := Nat.mul_le_mul_right _ z
      have e4 : u * m < u * 2 ^ 53 := Nat.mul_lt_mul_of_pos_left hm53 hup
      omega
    · intro y
      have e3 : 4 * (X - b * u) * m ≤ 2 * u * m := Nat.mul_le_mul_right _ (by omega)
      have e4 : 2 * u * m ≤ 2 * u * 2 ^ 52 := Nat.mul_le_mul_left _ (hm52 y)
      omega
