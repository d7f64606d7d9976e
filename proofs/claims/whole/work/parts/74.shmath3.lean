/-! the reference: isNumber; a row's value; which rows lie between -/
theorem is_e {b k n : Nat} (hb : b < 2 ^ 64) (hk : k + n ≤ 64) (hk6 : k < 64) (hn : n < 32) : (lN b >>> ((nI k).toInt64 &&& 63)).toInt32 &&& nI (2 ^ n - 1) = nI (b / 2 ^ k % 2 ^ n) := by
  rw [wb_c k hk6]
  apply Int32.toBitVec_inj.mp
  rw [Int32.toBitVec_and, Int64.toBitVec_toInt32, Int64.toBitVec_shiftRight, wb_tb, wb_tb, wb_sm k hk6, BitVec.signExtend_eq_setWidth_of_le _ (show 32 ≤ 64 by decide)]
  show BitVec.setWidth 32 _ &&& BitVec.ofNat 32 _ = BitVec.ofNat 32 _
  apply BitVec.eq_of_getLsbD_eq
  intro i hi
  rw [BitVec.getLsbD_and, BitVec.getLsbD_setWidth, BitVec.sshiftRight_eq', BitVec.getLsbD_sshiftRight, BitVec.getLsbD_ofNat, BitVec.getLsbD_ofNat, BitVec.getLsbD_ofNat, BitVec.toNat_ofNat, Nat.mod_eq_of_lt (show k < 2 ^ 64 by omega), Nat.testBit_two_pow_sub_one, Nat.testBit_mod_two_pow, Nat.testBit_div_two_pow]
  by_cases h : i < n
  · simp [h, hi, show ¬ (64 ≤ i) by omega, show k + i < 64 by omega, Nat.add_comm]
  · simp [h]
theorem iI_l {n : Nat} : iI (n : Int) = nI n := iI_nat n
def vlt (A : Nat) (a : Int) (B : Nat) (b : Int) : Prop := A * 10 ^ (a - min a b).toNat < B * 10 ^ (b - min a b).toNat
theorem vlt_iff (A : Nat) (a : Int) (B : Nat) (b : Int) : vlt A a B b ↔ A * 10 ^ a.toNat * 10 ^ (-b).toNat < B * 10 ^ b.toNat * 10 ^ (-a).toNat := by
  obtain ⟨s, hs1, hs2⟩ : ∃ s : Nat, a.toNat + (-b).toNat = (a - min a b).toNat + s ∧ b.toNat + (-a).toNat = (b - min a b).toNat + s := ⟨a.toNat + (-b).toNat - (a - min a b).toNat, by omega, by omega⟩
  rw [Nat.mul_assoc, Nat.mul_assoc, ← Nat.pow_add, ← Nat.pow_add, hs1, hs2, Nat.pow_add, Nat.pow_add, ← Nat.mul_assoc, ← Nat.mul_assoc, Nat.mul_lt_mul_right (p10_pos s)]
  rfl
theorem q_lt {n1 d1 n2 d2 n1' d1' n2' d2' : Nat} (p1 : 0 < d1) (p2 : 0 < d2) (p1' : 0 < d1') (p2' : 0 < d2') (h1 : n1 * d1' = n1' * d1) (h2 : n2 * d2' = n2' * d2) : n1 * d2 < n2 * d1 ↔ n1' * d2' < n2' * d1' := by
  rw [← Nat.mul_lt_mul_right (a := d1' * d2') (Nat.mul_pos p1' p2'), ← Nat.mul_lt_mul_right (a := d1 * d2) (b := n1' * d2') (Nat.mul_pos p1 p2)]
  have e1 : n1 * d2 * (d1' * d2') = n1' * d2' * (d1 * d2) := by
    calc n1 * d2 * (d1' * d2') = (n1 * d1') * (d2 * d2') := by ac_rfl
      _ = (n1' * d1) * (d2 * d2') := by rw [h1]
      _ = n1' * d2' * (d1 * d2) := by ac_rfl
  have e2 : n2 * d1 * (d1' * d2') = n2' * d1' * (d1 * d2) := by
    calc n2 * d1 * (d1' * d2') = (n2 * d2') * (d1 * d1') := by ac_rfl
      _ = (n2' * d2) * (d1 * d1') := by rw [h2]
      _ = n2' * d1' * (d1 * d2) := by ac_rfl
  rw [e1, e2]
theorem sl_row {S C t : Nat} {k c : Int} (h : S * tw2 k = C * 10 ^ t) (hc : c = (t : Int) + min k 0) : C * 10 ^ c.toNat * 2 ^ (-k).toNat = S * 2 ^ k.toNat * 10 ^ (-c).toNat := by
  apply Nat.eq_of_mul_eq_mul_right (Nat.pow_pos (n := (-k).toNat) (show 0 < 5 by decide))
  have e1 : 10 ^ c.toNat * 10 ^ (-k).toNat = 10 ^ t * 10 ^ (-c).toNat := by rw [← Nat.pow_add, ← Nat.pow_add]; congr 1; omega
  have e4 : 10 ^ (-k).toNat = 2 ^ (-k).toNat * 5 ^ (-k).toNat := by rw [← Nat.mul_pow]
  calc C * 10 ^ c.toNat * 2 ^ (-k).toNat * 5 ^ (-k).toNat = C * (10 ^ c.toNat * (2 ^ (-k).toNat * 5 ^ (-k).toNat)) := by ac_rfl
    _ = C * (10 ^ t * 10 ^ (-c).toNat) := by rw [← e4, e1]
    _ = (C * 10 ^ t) * 10 ^ (-c).toNat := by ac_rfl
    _ = (S * tw2 k) * 10 ^ (-c).toNat := by rw [h]
    _ = S * 2 ^ k.toNat * 10 ^ (-c).toNat * 5 ^ (-k).toNat := by unfold tw2 tw2p; ac_rfl
theorem sl_num {A t v n X kf E j : Nat} {a k pt : Int} (hA : v = A * 10 ^ t) (ha : a = pt - (n : Int) + (t : Int)) (hk : k = lez kf + (E : Int) - (j : Int)) (hn : n ≤ dl X) (hkf : kf < 2) :
    A * 10 ^ a.toNat * (nM (pt - ((dl X : Nat) : Int)) * 2 ^ E * 2 ^ (-k).toNat) = 2 ^ j * (v * 10 ^ (dl X - n) * nC (pt - ((dl X : Nat) : Int)) kf) * 2 ^ k.toNat * 10 ^ (-a).toNat := by
  have hz := fz_all kf hkf
  unfold nM nC
  generalize hx : pt - ((dl X : Nat) : Int) = x
  have e1 : 10 ^ a.toNat * 10 ^ (-x).toNat = 10 ^ t * 10 ^ (dl X - n) * 10 ^ x.toNat * 10 ^ (-a).toNat := by
    rw [← Nat.pow_add, ← Nat.pow_add, ← Nat.pow_add, ← Nat.pow_add]; congr 1; omega
  have e2 : 2 ^ E * 2 ^ (-k).toNat = 2 ^ j * 2 ^ (-lez kf).toNat * 2 ^ k.toNat := by
    rw [← Nat.pow_add, ← Nat.pow_add, ← Nat.pow_add]; congr 1; omega
  calc A * 10 ^ a.toNat * (10 ^ (-x).toNat * 2 ^ E * 2 ^ (-k).toNat) = A * (10 ^ a.toNat * 10 ^ (-x).toNat) * (2 ^ E * 2 ^ (-k).toNat) := by ac_rfl
    _ = A * (10 ^ t * 10 ^ (dl X - n) * 10 ^ x.toNat * 10 ^ (-a).toNat) * (2 ^ j * 2 ^ (-lez kf).toNat * 2 ^ k.toNat) := by rw [e1, e2]
    _ = 2 ^ j * ((A * 10 ^ t) * 10 ^ (dl X - n) * (10 ^ x.toNat * 2 ^ (-lez kf).toNat)) * 2 ^ k.toNat * 10 ^ (-a).toNat := by ac_rfl
    _ = 2 ^ j * (v * 10 ^ (dl X - n) * (10 ^ x.toNat * 2 ^ (-lez kf).toNat)) * 2 ^ k.toNat * 10 ^ (-a).toNat := by rw [hA]
theorem sl_lt {A t v n X kf E j S C tc : Nat} {a k pt c : Int} (hA : v = A * 10 ^ t) (ha : a = pt - (n : Int) + (t : Int)) (hk : k = lez kf + (E : Int) - (j : Int)) (hn : n ≤ dl X) (hkf : kf < 2) (hC : S * tw2 k = C * 10 ^ tc) (hc : c = (tc : Int) + min k 0) :
    (vlt A a C c ↔ 2 ^ j * (v * 10 ^ (dl X - n) * nC (pt - ((dl X : Nat) : Int)) kf) < S * (nM (pt - ((dl X : Nat) : Int)) * 2 ^ E)) ∧
    (vlt C c A a ↔ S * (nM (pt - ((dl X : Nat) : Int)) * 2 ^ E) < 2 ^ j * (v * 10 ^ (dl X - n) * nC (pt - ((dl X : Nat) : Int)) kf)) := by
  have h1 := sl_num (X := X) hA ha hk hn hkf
  have h2 := sl_row hC hc
  have hM := nM_pos (pt - ((dl X : Nat) : Int))
  generalize nM (pt - ((dl X : Nat) : Int)) = M at *
  generalize v * 10 ^ (dl X - n) * nC (pt - ((dl X : Nat) : Int)) kf = P at *
  have hd : 0 < M * 2 ^ E * 2 ^ (-k).toNat := Nat.mul_pos (Nat.mul_pos hM (p2_pos _)) (p2_pos _)
  have q1 := q_lt (p10_pos (-a).toNat) (p10_pos (-c).toNat) hd (p2_pos (-k).toNat) h1 h2
  have q2 := q_lt (p10_pos (-c).toNat) (p10_pos (-a).toNat) (p2_pos (-k).toNat) hd h2 h1
  have hs := Nat.mul_pos (p2_pos k.toNat) (p2_pos (-k).toNat)
  have e1 : 2 ^ j * P * 2 ^ k.toNat * 2 ^ (-k).toNat = 2 ^ j * P * (2 ^ k.toNat * 2 ^ (-k).toNat) := by ac_rfl
  have e2 : S * 2 ^ k.toNat * (M * 2 ^ E * 2 ^ (-k).toNat) = S * (M * 2 ^ E) * (2 ^ k.toNat * 2 ^ (-k).toNat) := by ac_rfl
  rw [vlt_iff, vlt_iff, q1, q2, e1, e2]
  exact ⟨Nat.mul_lt_mul_right hs, Nat.mul_lt_mul_right hs⟩
/-- the reference's isIn: number (A, a) against under (B, b) and over (C, c) -/
def inP (ev : Int) (A : Nat) (a : Int) (B : Nat) (b : Int) (C : Nat) (c : Int) : Prop := (ev = 1 ∧ ¬ vlt A a B b ∧ ¬ vlt C c A a) ∨ (ev = 0 ∧ vlt B b A a ∧ vlt A a C c)
theorem in_iff {X v n kf E m A t B tb C tc Su ju : Nat} {pt a b c ev : Int} (hkf : kf < 2) (hx : EXA X pt kf E m) (hn : n ≤ dl X) (hA : v = A * 10 ^ t) (ha : a = pt - (n : Int) + (t : Int)) (hev : (ev = 1 ∧ m % 2 = 0) ∨ (ev = 0 ∧ m % 2 = 1))
    (hC : (2 * m + 1) * tw2 (lez kf + (E : Int) - ((1 : Nat) : Int)) = C * 10 ^ tc) (hc : c = (tc : Int) + min (lez kf + (E : Int) - ((1 : Nat) : Int)) 0)
    (hcl : ((m = 2 ^ fbz kf ∧ 0 < E) ∧ Su = 4 * m - 1 ∧ ju = 2) ∨ (¬ (m = 2 ^ fbz kf ∧ 0 < E) ∧ Su = 2 * m - 1 ∧ ju = 1))
    (hB : Su * tw2 (lez kf + (E : Int) - (ju : Int)) = B * 10 ^ tb) (hb : b = (tb : Int) + min (lez kf + (E : Int) - (ju : Int)) 0) :
    inP ev A a B b C c ↔ RB v (pt - (n : Int)) kf (E * 2 ^ fbz kf + m) := by
  rw [RB_w hkf hx hn]
  obtain ⟨c1, c2⟩ := sl_lt (X := X) hA ha rfl hn hkf hC hc
  obtain ⟨b1, b2⟩ := sl_lt (X := X) hA ha rfl hn hkf hB hb
  have hz := fz_all kf hkf
  have h2e : 2 ^ fbz kf % 2 = 0 := by rcases hz with z | z <;> rw [z.1] <;> decide
  unfold inP inI
  rw [c1, c2, b1, b2, show fbz kf + 1 - 1 = fbz kf by omega]
  clear c1 c2 b1 b2 hC hB hc hb hA ha
  generalize v * 10 ^ (dl X - n) * nC (pt - ((dl X : Nat) : Int)) kf = P
  generalize nM (pt - ((dl X : Nat) : Int)) * 2 ^ E = K
  rcases hcl with ⟨hm, rfl, rfl⟩ | ⟨hm, rfl, rfl⟩
  · generalize (4 * m - 1) * K = L
    generalize (2 * m + 1) * K = U
    have hme : m % 2 = 0 := by rw [hm.1]; exact h2e
    generalize hcc : (m = 2 ^ fbz kf ∧ 0 < E) = cc at *
    generalize (2 * m - 1) * K = L2
    have : (m = 2 ^ fbz kf ∧ 0 < E ∧ L ≤ 4 * P) ↔ L ≤ 4 * P := by
      rw [← hcc] at hm
      exact ⟨fun z => z.2.2, fun z => ⟨hm.1, hm.2, z⟩⟩
    rw [this]
    have hP4 : 2 ^ 2 * P = 4 * P := rfl
    have hP2 : 2 ^ 1 * P = 2 * P := rfl
    rw [hP4, hP2]
    constructor
    · rintro (⟨-, h1, h2⟩ | ⟨h0, -, -⟩)
      · exact ⟨by omega, Or.inl (by omega)⟩
      · omega
    · rintro ⟨h1, h2 | ⟨h2, -⟩⟩
      · refine Or.inl ⟨by omega, by omega, by omega⟩
      · exact absurd hm h2
  · generalize (4 * m - 1) * K = L
    generalize (2 * m + 1) * K = U
    generalize (2 * m - 1) * K = L2
    have hP2 : 2 ^ 1 * P = 2 * P := rfl
    rw [hP2]
    have : ¬ (m = 2 ^ fbz kf ∧ 0 < E ∧ L ≤ 4 * P) := fun z => hm ⟨z.1, z.2.1⟩
    constructor
    · rintro (⟨h0, h1, h2⟩ | ⟨h0, h1, h2⟩)
      · exact ⟨by omega, Or.inr ⟨hm, by omega⟩⟩
      · exact ⟨by omega, Or.inr ⟨hm, by omega⟩⟩
    · rintro ⟨h1, h2 | ⟨-, h2⟩⟩
      · exact absurd h2 this
      · rcases hev with ⟨h0, h3⟩ | ⟨h0, h3⟩
        · exact Or.inl ⟨h0, by omega, by omega⟩
        · exact Or.inr ⟨h0, by omega, by omega⟩
theorem nb_y {X n : Nat} (h : n ≤ dl X) : dl (X / 10 ^ (dl X - n)) = n := by rw [dl_div]; omega
theorem rs_pt (S : Nat) (k : Int) : (if rz S = 0 then (if S = 0 then 0 else ((dl S : Nat) : Int)) else (if S = 0 then 0 else ((dl S : Nat) : Int)) + (((dl (rz S * tw2 k) : Nat) : Int) - ((dl (rz S) : Nat) : Int)) + min k 0) = (if S = 0 then 0 else ((dl (S * tw2 k) : Nat) : Int) + min k 0) := by
  by_cases z : S = 0
  · rw [if_pos z, if_pos z, z, rz_0, if_pos rfl]
  · have hp : 0 < S := by omega
    have h1 := dl_tele hp (tw2_pos k)
    rw [if_neg z, if_neg z, if_neg (Nat.ne_of_gt (rz_pos hp))]
    omega
theorem vlt_d (A : Nat) (a : Int) (B : Nat) (b : Int) : A * 10 ^ (a - min a b).toNat < B * 10 ^ (b - min a b).toNat ↔ vlt A a B b := Iff.rfl
theorem vlt_r (A : Nat) (a : Int) (B : Nat) (b : Int) : B * 10 ^ (b - min a b).toNat < A * 10 ^ (a - min a b).toNat ↔ vlt B b A a := by unfold vlt; rw [Int.min_comm a b]
