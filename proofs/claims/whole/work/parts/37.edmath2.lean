theorem dg_snoc {h : Nat → Int32} {i Y d : Nat} (hh : dg_ok h i Y) (hd : d < 10) : dg_ok (upd h i (iI ((d : Nat) : Int))) (i + 1) (Y * 10 + d) := by
  intro j hj
  by_cases e : j = i
  · subst e
    rw [pk_us]
    have : j + 1 - 1 - j = 0 := by omega
    rw [this, Nat.pow_zero, Nat.div_one]
    congr 2; omega
  · rw [pk_un e, hh j (by omega)]
    have : i + 1 - 1 - j = 1 + (i - 1 - j) := by omega
    rw [this, Nat.pow_add, Nat.pow_one, ← Nat.div_div_eq_div_mul]
    have : (Y * 10 + d) / 10 = Y := by omega
    rw [this]
/-- a digit is set at a place behind all digits -/
def apX (X i d : Nat) : Nat := X * 10 ^ (i - dl X) * 10 + d
theorem ap_dl {X i d : Nat} (hi : dl X ≤ i) (h0 : X = 0 → i = 0) (hd : 0 < d ∧ d < 10) : dl (apX X i d) = i + 1 := by
  unfold apX
  rcases Nat.eq_zero_or_pos X with z | z
  · have := h0 z
    subst z; subst this
    apply dl_un
    · simp; omega
    · intro _; simp; omega
  · have h1 := dl_mul z (i - dl X)
    have e : dl X + (i - dl X) = i := by omega
    rw [e] at h1
    have h2 := dl_lt (X * 10 ^ (i - dl X))
    have h3 := dl_le (Nat.mul_pos z (p10_pos (i - dl X)))
    rw [h1] at h2 h3
    have h4 := dl_pos z
    apply dl_un
    · rw [Nat.pow_succ]; omega
    · intro _
      have e2 : i + 1 - 1 = i - 1 + 1 := by omega
      rw [e2, Nat.pow_succ]; omega
theorem ap_ok {X i d : Nat} {h : Nat → Int32} (hi : dl X ≤ i) (hi2 : i < 1200) (h0 : X = 0 → i = 0) (hd : 0 < d ∧ d < 10) (hh : dg_ok h i (X * 10 ^ (i - dl X))) : nm_ok (upd h i (iI ((d : Nat) : Int))) (apX X i d) := by
  refine ⟨by rw [ap_dl hi h0 hd]; omega, rz_n (by unfold apX; omega), ?_⟩
  rw [ap_dl hi h0 hd]
  exact dg_snoc hh hd.2
theorem ap_z {X i : Nat} {h : Nat → Int32} (hi : dl X ≤ i) (hh : dg_ok h i (X * 10 ^ (i - dl X))) : dg_ok (upd h i (iI 0)) (i + 1) (X * 10 ^ (i + 1 - dl X)) := by
  have := dg_snoc (d := 0) hh (by decide)
  have e : i + 1 - dl X = i - dl X + 1 := by omega
  rw [e, Nat.pow_succ, ← Nat.mul_assoc]
  exact this
/-- the first n digits are kept -/
def kfY (X : Nat) (n : Int) : Nat := X / 10 ^ (dl X - n.toNat)
theorem kf_dl (X : Nat) (n : Int) : dl (kfY X n) = min (dl X) n.toNat := by unfold kfY; rw [dl_div]; omega
theorem kf_ok {g : Nat → Int32} {X : Nat} {n : Int} (h : nm_ok g X) : dl (kfY X n) ≤ 1200 ∧ dg_ok g (dl (kfY X n)) (kfY X n) := by
  obtain ⟨h1, h2, h3⟩ := h
  refine ⟨by rw [kf_dl]; omega, ?_⟩
  rw [kf_dl]
  have := dg_pre (n := min (dl X) n.toNat) h3 (by omega)
  unfold kfY
  have e : dl X - min (dl X) n.toNat = dl X - n.toNat := by omega
  rw [e] at this
  exact this
theorem nm_rz {g : Nat → Int32} {Y : Nat} (h1 : dl Y ≤ 1200) (h : dg_ok g (dl (rz Y)) (rz Y)) : nm_ok g (rz Y) := ⟨Nat.le_trans (dl_mono (rz_le Y)) h1, rz_rz Y, h⟩
/-- one more is counted up in the last of the first n digits -/
theorem om_s {X j n : Nat} (hj : 0 < j) (hjd : j ≤ dl X) (hjn : j ≤ n) (h9 : X / 10 ^ (dl X - j) % 10 = 9) (h : X / 10 ^ (dl X - n) + 1 = (X / 10 ^ (dl X - j) + 1) * 10 ^ (n - j)) :
    X / 10 ^ (dl X - n) + 1 = (X / 10 ^ (dl X - (j - 1)) + 1) * 10 ^ (n - (j - 1)) := by
  rw [h]
  have e1 : dl X - (j - 1) = dl X - j + 1 := by omega
  have e2 : n - (j - 1) = n - j + 1 := by omega
  rw [e1, e2, Nat.pow_succ 10 (dl X - j), ← Nat.div_div_eq_div_mul, Nat.pow_succ, Nat.mul_comm (10 ^ (n - j)) 10, ← Nat.mul_assoc]
  congr 1
  omega
theorem om_a {X n : Nat} (h : X / 10 ^ (dl X - n) + 1 = (X / 10 ^ (dl X - 0) + 1) * 10 ^ (n - 0)) : X / 10 ^ (dl X - n) + 1 = 10 ^ n := by
  rw [h, Nat.sub_zero, Nat.sub_zero, Nat.div_eq_of_lt (dl_lt X)]; simp
theorem om_b {g : Nat → Int32} {X j n d : Nat} (hg : nm_ok g X) (hj : 0 < j) (hjd : j ≤ dl X) (hjn : j ≤ n) (hd : d = X / 10 ^ (dl X - j) % 10) (h9 : ¬ d = 9) (h : X / 10 ^ (dl X - n) + 1 = (X / 10 ^ (dl X - j) + 1) * 10 ^ (n - j)) :
    rz (X / 10 ^ (dl X - n) + 1) = X / 10 ^ (dl X - j) + 1 ∧ dl (X / 10 ^ (dl X - j) + 1) = j ∧ ¬ X / 10 ^ (dl X - n) + 1 = 10 ^ n ∧ nm_ok (upd g (j - 1) (iI ((d + 1 : Nat) : Int))) (X / 10 ^ (dl X - j) + 1) := by
  have hd9 : d < 10 := by rw [hd]; exact Nat.mod_lt _ (by decide)
  have hXp : 0 < X := by
    rcases Nat.eq_zero_or_pos X with z | z
    · rw [z, dl_0] at hjd; omega
    · exact z
  obtain ⟨Z, hZ⟩ : ∃ Z, Z = X / 10 ^ (dl X - j) := ⟨_, rfl⟩
  rw [← hZ] at hd h ⊢
  have hzl : dl Z = j := by rw [hZ, dl_div]; omega
  have hzlt := dl_lt Z
  have hzge : 10 ^ (j - 1) ≤ Z := by
    have hZp : 0 < Z := by
      rcases Nat.eq_zero_or_pos Z with z | z
      · rw [z, dl_0] at hzl; omega
      · exact z
    have := dl_le hZp; rwa [hzl] at this
  rw [hzl] at hzlt
  have ej : 10 ^ j = 10 ^ (j - 1) * 10 := by rw [← Nat.pow_succ]; congr 1; omega
  have hdl : dl (Z + 1) = j := by
    apply dl_un
    · rw [ej] at hzlt ⊢; omega
    · intro _; omega
  have hrz : rz (Z + 1) = Z + 1 := rz_n (by omega)
  refine ⟨by rw [h, rz_mul, hrz], hdl, ?_, ?_⟩
  · intro z
    rw [h] at z
    have e : 10 ^ n = 10 ^ j * 10 ^ (n - j) := by rw [← Nat.pow_add]; congr 1; omega
    rw [e] at z
    have := Nat.eq_of_mul_eq_mul_right (p10_pos (n - j)) z
    rw [this] at hdl
    have := dl_mul (n := 1) (by decide) j
    rw [Nat.one_mul] at this
    rw [this] at hdl
    have : dl 1 = 1 := by rw [dl_s (by decide)]; show dl 0 + 1 = 1; rw [dl_0]
    omega
  · refine ⟨by rw [hdl]; have := hg.1; omega, hrz, ?_⟩
    rw [hdl]
    have h2 := dg_pre (n := j) hg.2.2 hjd
    rw [← hZ] at h2
    have e1 : j - 1 + 1 = j := by omega
    have h3 : dg_ok g (j - 1) (Z / 10) := dg_drop (by rw [e1]; exact h2)
    have h4 := dg_snoc (d := d + 1) h3 (by omega)
    rw [e1] at h4
    have e2 : Z / 10 * 10 + (d + 1) = Z + 1 := by omega
    rw [e2] at h4
    exact h4
theorem nm_1 (g : Nat → Int32) : nm_ok (upd g 0 (iI 1)) 1 ∧ dl 1 = 1 := by
  have h1 : dl 1 = 1 := by rw [dl_s (by decide)]; show dl 0 + 1 = 1; rw [dl_0]
  refine ⟨⟨by omega, rz_n (by decide), ?_⟩, h1⟩
  rw [h1]
  intro i hi
  have : i = 0 := by omega
  subst this
  rw [pk_us]; rfl
theorem rz_p10 (n : Nat) : rz (10 ^ n) = 1 := rz_un (t := n) (by rw [Nat.one_mul]) (by decide)
