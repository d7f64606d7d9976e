/-! The nearest: P / M counts units of the least; E places are dropped, q is kept, u is counted up -/
theorem p2_pos (k : Nat) : 0 < 2 ^ k := Nat.pow_pos (by decide)
def nr (sz P M E q : Nat) : Prop := q = P / (M * 2 ^ E) ∧ q < 2 ^ sz ∧ (0 < E → 2 ^ (sz - 1) ≤ q)
theorem nr_lt {sz P M E q E' q' : Nat} (hs : 0 < sz) (h : nr sz P M E q) (h' : nr sz P M E' q') : ¬ E < E' := by
  intro hlt
  obtain ⟨d, rfl⟩ : ∃ d, E' = E + (d + 1) := ⟨E' - E - 1, by omega⟩
  obtain ⟨h1, h2, -⟩ := h
  obtain ⟨h1', -, h3'⟩ := h'
  have h3 := h3' (by omega)
  rw [Nat.pow_add, ← Nat.mul_assoc, ← Nat.div_div_eq_div_mul, ← h1, Nat.pow_succ, Nat.mul_comm (2 ^ d), ← Nat.div_div_eq_div_mul] at h1'
  have h4 : q / 2 / 2 ^ d ≤ q / 2 := Nat.div_le_self _ _
  have h5 : 2 ^ sz = 2 ^ (sz - 1) * 2 := by rw [← Nat.pow_succ]; congr 1; omega
  omega
theorem nr_un {sz P M E q E' q' : Nat} (hs : 0 < sz) (h : nr sz P M E q) (h' : nr sz P M E' q') : E = E' ∧ q = q' := by
  have a := nr_lt hs h h'
  have b := nr_lt hs h' h
  have e : E = E' := by omega
  subst e
  exact ⟨rfl, h.1.trans h'.1.symm⟩
def upP (P M E q : Nat) (b : Prop) : Prop := (2 * q + 1) * (M * 2 ^ E) < 2 * P ∨ ((2 * q + 1) * (M * 2 ^ E) = 2 * P ∧ (b ∨ q % 2 = 1))
def NR (sz inf P M : Nat) (b : Prop) (r : Nat) : Prop := ∃ E q u, nr sz P M E q ∧ ((u = 1 ∧ upP P M E q b) ∨ (u = 0 ∧ ¬ upP P M E q b)) ∧ r = min inf (E * 2 ^ (sz - 1) + q + u)
theorem NR_un {sz inf P M : Nat} {b : Prop} {r r' : Nat} (hs : 0 < sz) (h : NR sz inf P M b r) (h' : NR sz inf P M b r') : r = r' := by
  obtain ⟨E, q, u, h1, h2, h3⟩ := h
  obtain ⟨E', q', u', h1', h2', h3'⟩ := h'
  obtain ⟨rfl, rfl⟩ := nr_un hs h1 h1'
  rcases h2 with ⟨rfl, a⟩ | ⟨rfl, a⟩ <;> rcases h2' with ⟨rfl, a'⟩ | ⟨rfl, a'⟩
  · rw [h3, h3']
  · exact absurd a a'
  · exact absurd a' a
  · rw [h3, h3']
/-- what is kept in two ways is one -/
theorem cn_un {w E q E' q' : Nat} (h2 : q < 2 * w) (h3 : 0 < E → w ≤ q) (h2' : q' < 2 * w) (h3' : 0 < E' → w ≤ q') (h : E * w + q = E' * w + q') : E = E' ∧ q = q' := by
  have key : ∀ {E q E' q' : Nat}, q < 2 * w → (0 < E' → w ≤ q') → E * w + q = E' * w + q' → ¬ E < E' := by
    intro E q E' q' h2 h3' h hlt
    have h5 := h3' (by omega)
    obtain ⟨d, rfl⟩ : ∃ d, E' = E + (d + 1) := ⟨E' - E - 1, by omega⟩
    rw [Nat.add_mul, Nat.add_mul, Nat.one_mul] at h
    omega
  have a := key h2 h3' h
  have b := key h2' h3 h.symm
  have e : E = E' := by omega
  subst e
  exact ⟨rfl, by omega⟩
/-- the numbers that read back to what is kept: (E, m) -/
def inI (sz P M E m : Nat) : Prop :=
  (2 * P < (2 * m + 1) * (M * 2 ^ E) ∨ (2 * P = (2 * m + 1) * (M * 2 ^ E) ∧ m % 2 = 0)) ∧
  ((m = 2 ^ (sz - 1) ∧ 0 < E ∧ (4 * m - 1) * (M * 2 ^ E) ≤ 4 * P) ∨
   (¬ (m = 2 ^ (sz - 1) ∧ 0 < E) ∧ ((2 * m - 1) * (M * 2 ^ E) < 2 * P ∨ ((2 * m - 1) * (M * 2 ^ E) = 2 * P ∧ m % 2 = 0))))
theorem dv_le {P K q : Nat} (hK : 0 < K) (h : q = P / K) : q * K ≤ P ∧ P < (q + 1) * K := by
  subst h
  exact ⟨Nat.div_mul_le_self _ _, by rw [Nat.mul_comm]; exact Nat.lt_mul_div_succ _ hK⟩
theorem dv_eq {P K q : Nat} (h1 : q * K ≤ P) (h2 : P < (q + 1) * K) : q = P / K := by
  symm
  have hK : 0 < K := by
    rcases Nat.eq_zero_or_pos K with h | h
    · subst h; simp at h2
    · exact h
  apply Nat.le_antisymm
  · have := (Nat.div_lt_iff_lt_mul hK).mpr h2
    omega
  · exact (Nat.le_div_iff_mul_le hK).mpr h1
theorem rb_of {sz inf P M r E m : Nat} (hs : 2 ≤ sz) (hM : 0 < M) (h : NR sz inf P M False r) (hm : 0 < m) (hm2 : m < 2 ^ sz) (hc : 0 < E → 2 ^ (sz - 1) ≤ m) (hinf : E * 2 ^ (sz - 1) + m < inf) (hr : r = E * 2 ^ (sz - 1) + m) : inI sz P M E m := by
  obtain ⟨E', q, u, ⟨h1, h2, h3⟩, hu, h4⟩ := h
  have hw : 2 ^ sz = 2 * 2 ^ (sz - 1) := by rw [← Nat.pow_succ']; congr 1; omega
  have hw1 : 2 ^ (sz - 1) = 2 * 2 ^ (sz - 2) := by rw [← Nat.pow_succ']; congr 1; omega
  have hk := p2_pos (sz - 2)
  have hK : 0 < M * 2 ^ E' := Nat.mul_pos hM (p2_pos _)
  obtain ⟨b1, b2⟩ := dv_le hK h1
  have hr2 : E * 2 ^ (sz - 1) + m = E' * 2 ^ (sz - 1) + q + u := by omega
  generalize hwv : 2 ^ (sz - 1) = w at *
  rcases hu with ⟨rfl, hup⟩ | ⟨rfl, hup⟩
  · rcases Nat.lt_or_ge (q + 1) (2 * w) with hq | hq
    · obtain ⟨rfl, rfl⟩ := cn_un (by omega) hc hq (fun z => by have := h3 z; omega) (hr2.trans (by omega) : E * w + m = E' * w + (q + 1))
      refine ⟨Or.inl ?_, Or.inr ⟨fun ⟨z1, z2⟩ => ?_, ?_⟩⟩
      · have e : (2 * (q + 1) + 1) * (M * 2 ^ E) = 2 * ((q + 1) * (M * 2 ^ E)) + M * 2 ^ E := by rw [Nat.add_mul, Nat.mul_assoc]; omega
        omega
      · have := h3 z2; omega
      · have e : 2 * (q + 1) - 1 = 2 * q + 1 := by omega
        rw [e]
        rcases hup with hup | ⟨hup, hf | hodd⟩
        · exact Or.inl hup
        · exact hf.elim
        · exact Or.inr ⟨hup, by omega⟩
    · have hq2 : q + 1 = 2 * w := by omega
      have e0 : E * w + m = (E' + 1) * w + w := by rw [Nat.add_mul]; omega
      obtain ⟨rfl, rfl⟩ := cn_un (by omega) hc (by omega) (fun _ => Nat.le_refl _) e0
      have e2 : M * 2 ^ (E' + 1) = 2 * (M * 2 ^ E') := by rw [Nat.pow_succ, ← Nat.mul_assoc]; omega
      unfold upP at hup
      generalize hKv : M * 2 ^ E' = K at *
      rw [inI, e2]
      refine ⟨Or.inl ?_, Or.inl ⟨hwv.symm, by omega, ?_⟩⟩
      · have e : (2 * m + 1) * (2 * K) = 2 * ((q + 1) * K) + 2 * K := by rw [hq2, Nat.add_mul, Nat.mul_assoc, Nat.mul_assoc, Nat.one_mul]; rw [Nat.mul_left_comm m 2 K]
        omega
      · have e : (4 * m - 1) * (2 * K) = 2 * ((2 * q + 1) * K) := by
          have : 4 * m - 1 = 2 * q + 1 := by omega
          rw [this, Nat.mul_left_comm]
        rcases hup with hup | ⟨hup, -⟩ <;> omega
  · obtain ⟨rfl, rfl⟩ := cn_un (by omega) hc (by omega) h3 (hr2.trans (by omega) : E * w + m = E' * w + q)
    have c1 : ¬ (2 * m + 1) * (M * 2 ^ E) < 2 * P := fun z => hup (Or.inl z)
    have e1 : (2 * m - 1) * (M * 2 ^ E) + (M * 2 ^ E) = 2 * (m * (M * 2 ^ E)) := by
      have a1 : (2 * m - 1) * (M * 2 ^ E) + (M * 2 ^ E) = (2 * m - 1 + 1) * (M * 2 ^ E) := by rw [Nat.add_mul, Nat.one_mul]
      have a2 : 2 * m - 1 + 1 = 2 * m := by omega
      rw [a1, a2, Nat.mul_assoc]
    refine ⟨?_, ?_⟩
    · by_cases c2 : (2 * m + 1) * (M * 2 ^ E) = 2 * P
      · exact Or.inr ⟨c2.symm, by
          have : ¬ m % 2 = 1 := fun z => hup (Or.inr ⟨c2, Or.inr z⟩)
          omega⟩
      · exact Or.inl (by omega)
    · by_cases c3 : m = 2 ^ (sz - 1) ∧ 0 < E
      · refine Or.inl ⟨c3.1, c3.2, ?_⟩
        have e4 : (4 * m - 1) * (M * 2 ^ E) ≤ 4 * m * (M * 2 ^ E) := Nat.mul_le_mul_right _ (by omega)
        rw [Nat.mul_assoc] at e4
        omega
      · exact Or.inr ⟨c3, Or.inl (by omega)⟩
theorem rb_to {sz inf P M r E m : Nat} (hs : 2 ≤ sz) (hM : 0 < M) (h : NR sz inf P M False r) (hm : 0 < m) (hm2 : m < 2 ^ sz) (hc : 0 < E → 2 ^ (sz - 1) ≤ m) (hinf : E * 2 ^ (sz - 1) + m < inf) (hI : inI sz P M E m) : r = E * 2 ^ (sz - 1) + m := by
  have hw : 2 ^ sz = 2 * 2 ^ (sz - 1) := by rw [← Nat.pow_succ']; congr 1; omega
  have hw1 : 2 ^ (sz - 1) = 2 * 2 ^ (sz - 2) := by rw [← Nat.pow_succ']; congr 1; omega
  have hk := p2_pos (sz - 2)
  have hK : 0 < M * 2 ^ E := Nat.mul_pos hM (p2_pos _)
  have key : ∀ {E' q u : Nat}, nr sz P M E' q → ((u = 1 ∧ upP P M E' q False) ∨ (u = 0 ∧ ¬ upP P M E' q False)) → E' * 2 ^ (sz - 1) + q + u = E * 2 ^ (sz - 1) + m → r = E * 2 ^ (sz - 1) + m := by
    intro E' q u a1 a2 a3
    refine NR_un (by omega) h ⟨E', q, u, a1, a2, ?_⟩
    omega
  obtain ⟨hi, lo⟩ := hI
  have e0 : (2 * m + 1) * (M * 2 ^ E) = 2 * (m * (M * 2 ^ E)) + M * 2 ^ E := by rw [Nat.add_mul, Nat.mul_assoc]; omega
  have e1 : (m + 1) * (M * 2 ^ E) = m * (M * 2 ^ E) + M * 2 ^ E := by rw [Nat.add_mul]; omega
  rcases Nat.lt_or_ge P (m * (M * 2 ^ E)) with hlt | hge
  · rcases lo with ⟨l1, l2, l3⟩ | ⟨l1, l2⟩
    · obtain ⟨E1, rfl⟩ : ∃ E1, E = E1 + 1 := ⟨E - 1, by omega⟩
      have e2 : M * 2 ^ (E1 + 1) = 2 * (M * 2 ^ E1) := by rw [Nat.pow_succ, ← Nat.mul_assoc]; omega
      have hK1 : 0 < M * 2 ^ E1 := Nat.mul_pos hM (p2_pos _)
      rw [e2] at hlt l3
      have a1 : (2 ^ sz - 1) * (M * 2 ^ E1) + M * 2 ^ E1 = m * (2 * (M * 2 ^ E1)) := by
        have : (2 ^ sz - 1) * (M * 2 ^ E1) + M * 2 ^ E1 = (2 ^ sz - 1 + 1) * (M * 2 ^ E1) := by rw [Nat.add_mul, Nat.one_mul]
        rw [this]
        have : 2 ^ sz - 1 + 1 = m * 2 := by omega
        rw [this, Nat.mul_assoc]
      have a2 : (4 * m - 1) * (2 * (M * 2 ^ E1)) = 2 * ((2 * (2 ^ sz - 1) + 1) * (M * 2 ^ E1)) := by
        have : 4 * m - 1 = 2 * (2 ^ sz - 1) + 1 := by omega
        rw [this, Nat.mul_left_comm]
      have a3 : (2 * (2 ^ sz - 1) + 1) * (M * 2 ^ E1) = 2 * ((2 ^ sz - 1) * (M * 2 ^ E1)) + M * 2 ^ E1 := by rw [Nat.add_mul, Nat.mul_assoc]; omega
      have a4 : (2 ^ sz - 1 + 1) * (M * 2 ^ E1) = (2 ^ sz - 1) * (M * 2 ^ E1) + M * 2 ^ E1 := by rw [Nat.add_mul]; omega
      refine key (E' := E1) (q := 2 ^ sz - 1) (u := 1) ⟨dv_eq (by omega) (by omega), by omega, fun _ => by omega⟩ (Or.inl ⟨rfl, ?_⟩) ?_
      · rcases Nat.lt_or_ge ((2 * (2 ^ sz - 1) + 1) * (M * 2 ^ E1)) (2 * P) with z | z
        · exact Or.inl z
        · exact Or.inr ⟨by omega, Or.inr (by omega)⟩
      · rw [Nat.add_mul]; omega
    · obtain ⟨k, rfl⟩ : ∃ k, m = k + 1 := ⟨m - 1, by omega⟩
      have e3 : 2 * (k + 1) - 1 = 2 * k + 1 := by omega
      rw [e3] at l2
      have e4 : (2 * k + 1) * (M * 2 ^ E) = 2 * (k * (M * 2 ^ E)) + M * 2 ^ E := by rw [Nat.add_mul, Nat.mul_assoc]; omega
      have e5 : (k + 1) * (M * 2 ^ E) = k * (M * 2 ^ E) + M * 2 ^ E := by rw [Nat.add_mul]; omega
      refine key (E' := E) (q := k) (u := 1) ⟨dv_eq (by omega) (by omega), by omega, fun z => by have := hc z; omega⟩ (Or.inl ⟨rfl, ?_⟩) (by omega)
      rcases l2 with z | ⟨z, z2⟩
      · exact Or.inl z
      · exact Or.inr ⟨z, Or.inr (by omega)⟩
  · refine key (E' := E) (q := m) (u := 0) ⟨dv_eq hge (by omega), hm2, hc⟩ (Or.inr ⟨rfl, ?_⟩) (by omega)
    rintro (z | ⟨z, z2 | z2⟩)
    · rcases hi with y | ⟨y, -⟩ <;> omega
    · exact z2
    · rcases hi with y | ⟨y, y2⟩ <;> omega
/-! where it is made: by a head and what lies below it -/
theorem dv_cross {a b c d : Nat} (hb : 0 < b) (hd : 0 < d) (h : a * d = c * b) : a / b = c / d := by
  have h1 : a / b = a * d / (b * d) := by rw [Nat.mul_div_mul_right _ _ hd]
  have h2 : c / d = c * b / (d * b) := by rw [Nat.mul_div_mul_right _ _ hb]
  rw [h1, h2, h, Nat.mul_comm b d]
theorem lt_cross {a b c d x : Nat} (hb : 0 < b) (hd : 0 < d) (h : a * d = c * b) : x * b < 2 * a ↔ x * d < 2 * c := by
  rw [← Nat.mul_lt_mul_right hd, ← Nat.mul_lt_mul_right (a := b) (b := x * d) hb]
  have e1 : x * b * d = x * d * b := Nat.mul_right_comm _ _ _
  have e2 : 2 * a * d = 2 * c * b := by rw [Nat.mul_assoc, h, Nat.mul_assoc]
  rw [e1, e2]
theorem eq_cross {a b c d x : Nat} (hb : 0 < b) (hd : 0 < d) (h : a * d = c * b) : x * b = 2 * a ↔ x * d = 2 * c := by
  have e1 : x * b * d = x * d * b := Nat.mul_right_comm _ _ _
  have e2 : 2 * a * d = 2 * c * b := by rw [Nat.mul_assoc, h, Nat.mul_assoc]
  constructor
  · intro z
    apply Nat.eq_of_mul_eq_mul_right hb
    rw [← e1, z, e2]
  · intro z
    apply Nat.eq_of_mul_eq_mul_right hd
    rw [e1, z, e2]
/-- the half of what was dropped, by the head alone and whether something lies below it -/
theorem hd_half {num t head rem q k half : Nat} (ht : 0 < t) (hn : num = head * t + rem) (hr : rem < t) (hk : k = 2 * half) (hq : q * k ≤ head) :
    ((2 * q + 1) * (t * k) < 2 * num ↔ (half < head - q * k ∨ (half = head - q * k ∧ 0 < rem))) ∧ ((2 * q + 1) * (t * k) = 2 * num ↔ (half = head - q * k ∧ rem = 0)) := by
  obtain ⟨dr, rfl⟩ : ∃ dr, head = q * k + dr := ⟨head - q * k, by omega⟩
  have e0 : q * k + dr - q * k = dr := by omega
  rw [e0]
  have e1 : (2 * q + 1) * (t * k) = 2 * (q * k * t) + 2 * (half * t) := by
    subst hk
    rw [Nat.add_mul, Nat.one_mul]
    have a1 : 2 * q * (t * (2 * half)) = 2 * (q * (2 * half) * t) := by
      rw [Nat.mul_assoc 2 q, Nat.mul_assoc q, Nat.mul_comm t]
    have a2 : t * (2 * half) = 2 * (half * t) := by rw [Nat.mul_left_comm, Nat.mul_comm t]
    omega
  have e2 : 2 * num = 2 * (q * k * t) + 2 * (dr * t) + 2 * rem := by
    rw [hn, Nat.add_mul]; omega
  rw [e1, e2]
  rcases Nat.lt_trichotomy half dr with h | h | h
  · have a : (half + 1) * t ≤ dr * t := Nat.mul_le_mul_right _ h
    rw [Nat.add_mul, Nat.one_mul] at a
    constructor
    · constructor
      · intro _; exact Or.inl h
      · intro _; omega
    · constructor
      · intro z; omega
      · intro ⟨z, _⟩; omega
  · subst h
    constructor
    · constructor
      · intro z; exact Or.inr ⟨rfl, by omega⟩
      · intro z; rcases z with z | ⟨_, z⟩ <;> omega
    · constructor
      · intro z; exact ⟨rfl, by omega⟩
      · intro ⟨_, z⟩; omega
  · have a : (dr + 1) * t ≤ half * t := Nat.mul_le_mul_right _ h
    rw [Nat.add_mul, Nat.one_mul] at a
    constructor
    · constructor
      · intro z; omega
      · intro z; rcases z with z | ⟨z, _⟩ <;> omega
    · constructor
      · intro z; omega
      · intro ⟨z, _⟩; omega
/-- there is always such an answer -/
theorem nr_ex (sz P M : Nat) (hs : 0 < sz) : ∃ E q, nr sz P M E q ∧ E = bl (P / M) - sz := by
  refine ⟨bl (P / M) - sz, P / M / 2 ^ (bl (P / M) - sz), ⟨by rw [Nat.div_div_eq_div_mul], ?_, fun h => ?_⟩, rfl⟩
  · rw [Nat.div_lt_iff_lt_mul (p2_pos _), ← Nat.pow_add]
    exact Nat.lt_of_lt_of_le (bl_lt _) (Nat.pow_le_pow_right (by decide) (by omega))
  · rw [Nat.le_div_iff_mul_le (p2_pos _), ← Nat.pow_add]
    have hp : 0 < P / M := by
      rcases Nat.eq_zero_or_pos (P / M) with z | z
      · rw [z, bl_0] at h; omega
      · exact z
    have := bl_le hp
    have e : sz - 1 + (bl (P / M) - sz) = bl (P / M) - 1 := by omega
    rw [e]; exact this
theorem NR_head {sz inf P M num t head rem drop E q u half : Nat} {b : Prop} (hM : 0 < M) (ht : 0 < t) (hn : num = head * t + rem) (hr : rem < t) (hx : P * (t * 2 ^ drop) = num * (M * 2 ^ E)) (hd : 2 ^ drop = 2 * half) (hq : q = head / 2 ^ drop)
    (h1 : q < 2 ^ sz) (h2 : 0 < E → 2 ^ (sz - 1) ≤ q)
    (hu : (u = 1 ∧ (half < head - q * 2 ^ drop ∨ (half = head - q * 2 ^ drop ∧ ((b ∨ 0 < rem) ∨ q % 2 = 1)))) ∨ (u = 0 ∧ ¬ (half < head - q * 2 ^ drop ∨ (half = head - q * 2 ^ drop ∧ ((b ∨ 0 < rem) ∨ q % 2 = 1))))) :
    NR sz inf P M b (min inf (E * 2 ^ (sz - 1) + q + u)) := by
  have hB : 0 < M * 2 ^ E := Nat.mul_pos hM (p2_pos _)
  have hT : 0 < t * 2 ^ drop := Nat.mul_pos ht (p2_pos _)
  have hle : q * 2 ^ drop ≤ head := by rw [hq]; exact Nat.div_mul_le_self _ _
  obtain ⟨f1, f2⟩ := hd_half ht hn hr hd hle
  have c1 := lt_cross (x := 2 * q + 1) hB hT hx
  have c2 := eq_cross (x := 2 * q + 1) hB hT hx
  refine ⟨E, q, u, ⟨?_, h1, h2⟩, ?_, rfl⟩
  · have e1 : num / t = head := by rw [hn, Nat.mul_comm head, Nat.mul_add_div ht, Nat.div_eq_of_lt hr, Nat.add_zero]
    rw [dv_cross hB hT hx, ← Nat.div_div_eq_div_mul, e1]
    exact hq
  · rcases hu with ⟨rfl, hu⟩ | ⟨rfl, hu⟩
    · refine Or.inl ⟨rfl, ?_⟩
      unfold upP
      rw [c1, c2, f1, f2]
      rcases hu with z | ⟨z, (zb | zr) | zo⟩
      · exact Or.inl (Or.inl z)
      · rcases Nat.eq_zero_or_pos rem with y | y
        · exact Or.inr ⟨⟨z, y⟩, Or.inl zb⟩
        · exact Or.inl (Or.inr ⟨z, y⟩)
      · exact Or.inl (Or.inr ⟨z, zr⟩)
      · rcases Nat.eq_zero_or_pos rem with y | y
        · exact Or.inr ⟨⟨z, y⟩, Or.inr zo⟩
        · exact Or.inl (Or.inr ⟨z, y⟩)
    · refine Or.inr ⟨rfl, fun z => hu ?_⟩
      unfold upP at z
      rw [c1, c2, f1, f2] at z
      rcases z with (z | ⟨z, y⟩) | ⟨⟨z, y⟩, w⟩
      · exact Or.inl z
      · exact Or.inr ⟨z, Or.inl (Or.inr y)⟩
      · rcases w with w | w
        · exact Or.inr ⟨z, Or.inl (Or.inl w)⟩
        · exact Or.inr ⟨z, Or.inr w⟩
theorem NR_small {sz inf P M : Nat} {b : Prop} (h : 2 * P < M) : NR sz inf P M b 0 := by
  refine ⟨0, 0, 0, ⟨?_, p2_pos _, fun z => by omega⟩, Or.inr ⟨rfl, ?_⟩, by simp⟩
  · rw [Nat.pow_zero, Nat.mul_one, Nat.div_eq_of_lt (by omega)]
  · unfold upP
    rw [Nat.pow_zero, Nat.mul_one]
    rintro (z | ⟨z, -⟩) <;> omega
theorem NR_large {sz inf P M j : Nat} {b : Prop} (hs : 0 < sz) (hj : 0 < j) (h : inf = (j + 1) * 2 ^ (sz - 1)) (hb : sz + j ≤ bl (P / M)) : NR sz inf P M b inf := by
  obtain ⟨E, q, h1, h2⟩ := nr_ex sz P M hs
  have h3 : j ≤ E := by omega
  have h4 := h1.2.2 (by omega)
  have h5 : j * 2 ^ (sz - 1) ≤ E * 2 ^ (sz - 1) := Nat.mul_le_mul_right _ h3
  rw [Nat.add_mul] at h
  by_cases hu : upP P M E q b
  · exact ⟨E, q, 1, h1, Or.inl ⟨rfl, hu⟩, by omega⟩
  · exact ⟨E, q, 0, h1, Or.inr ⟨rfl, hu⟩, by omega⟩
