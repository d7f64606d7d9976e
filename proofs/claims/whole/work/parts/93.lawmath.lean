/-! numbers of the law's loop -/
def PB (t : Nat) (z : Int) : Prop := -(100000 + 3000 * (t : Int)) ≤ z ∧ z ≤ 100000 + 3000 * (t : Int)
theorem PB_9 {t L : Nat} {z : Int} (ht : 4 * t + 4 ≤ L) (hL : L ≤ 2048) (h : PB t z) : -9000000 ≤ z ∧ z ≤ 9000000 := by
  obtain ⟨h1, h2⟩ := h
  exact ⟨by omega, by omega⟩
theorem PB_of {t : Nat} {z : Int} (h : -100000 ≤ z ∧ z ≤ 100000) : PB (t + 1) z := ⟨by omega, by omega⟩
theorem PB_st {t : Nat} {pt z : Int} (h : PB t pt) (h1 : pt - 3000 ≤ z) (h2 : z ≤ pt + 3000) : PB (t + 1) z := by
  obtain ⟨h3, h4⟩ := h
  exact ⟨by omega, by omega⟩
theorem PB_s {t : Nat} {pt : Int} (h : PB t pt) : PB (t + 1) pt := PB_st h (by omega) (by omega)
theorem rz_00 {n : Nat} (h : rz n = 0) : n = 0 := by
  rcases Nat.eq_zero_or_pos n with z | z
  · exact z
  · have := rz_pos z; omega
theorem gvD_0 {V : Nat} (h : gvD V = 0) : V = 0 := gv_0.mp (rz_00 h)
theorem exV_0 {kf y : Nat} (h : exV kf y = 0) : y = 0 := by
  unfold exV at h
  rcases Nat.mul_eq_zero.mp h with z | z
  · exact ex_0.mp z
  · have := tw2_pos (lez kf + ((exE kf y : Nat) : Int)); omega
theorem ap_0 {X i z : Nat} (hz : 0 < z) : ¬ apX X i z = 0 := by unfold apX; omega
theorem wh_pt {V : Nat} (hV : V < 2 ^ 64) : -100000 ≤ (if V = 0 then 0 else ((dl V : Nat) : Int) + 0) ∧ (if V = 0 then 0 else ((dl V : Nat) : Int) + 0) ≤ 100000 := by
  have h : dl V ≤ 20 := dl_bound (by have : (2 : Nat) ^ 64 < 10 ^ 20 := by decide +kernel
                                     omega)
  split
  · exact ⟨by omega, by omega⟩
  · exact ⟨by omega, by omega⟩
theorem re_pt {kf y : Nat} (hkf : kf < 2) (hy : y < ifz kf) : -20000 ≤ (if y = 0 then 0 else ((dl (exV kf y) : Nat) : Int) + min (lez kf + ((exE kf y : Nat) : Int)) 0) ∧ (if y = 0 then 0 else ((dl (exV kf y) : Nat) : Int) + min (lez kf + ((exE kf y : Nat) : Int)) 0) ≤ 20000 := by
  have h := ex_dl hkf hy
  have h2 : -1074 ≤ lez kf ∧ lez kf ≤ 0 := by unfold lez; split <;> exact ⟨by omega, by omega⟩
  split
  · exact ⟨by omega, by omega⟩
  · exact ⟨by omega, by omega⟩
theorem tw2_22 {k : Int} (hk : -2200 ≤ k ∧ k ≤ 2200) : tw2 k ≤ 10 ^ 2200 := by
  unfold tw2 tw2p
  rcases Int.lt_or_le k 0 with h | h
  · rw [show k.toNat = 0 by omega, Nat.pow_zero, Nat.one_mul]
    exact Nat.le_trans (p5_10 _) (p10_le (by omega))
  · rw [show (-k).toNat = 0 by omega, Nat.pow_zero, Nat.mul_one]
    exact Nat.le_trans (p2_10 _) (p10_le (by omega))
theorem sh_pt {X : Nat} {k pt : Int} (hk : -2200 ≤ k ∧ k ≤ 2200) (h : ¬ X * tw2 k = 0) : pt - 2200 ≤ ((dl (X * tw2 k) : Nat) : Int) + (pt - ((dl X : Nat) : Int) + min k 0) ∧ ((dl (X * tw2 k) : Nat) : Int) + (pt - ((dl X : Nat) : Int) + min k 0) ≤ pt + 2200 := by
  have hX : 0 < X := by
    rcases Nat.eq_zero_or_pos X with z | z
    · rw [z, Nat.zero_mul] at h; exact absurd rfl h
    · exact z
  have h1 : dl X ≤ dl (X * tw2 k) := dl_mono (Nat.le_mul_of_pos_right _ (tw2_pos k))
  have h2 : dl (X * tw2 k) ≤ dl X + 2200 := by
    rw [← dl_mul hX 2200]
    exact dl_mono (Nat.mul_le_mul_left _ (tw2_22 hk))
  exact ⟨by omega, by omega⟩
theorem sh_PB {t X : Nat} {k pt : Int} (hk : -2200 ≤ k ∧ k ≤ 2200) (h : PB t pt) : PB (t + 1) (if (X * tw2 k) = 0 then 0 else ((dl (X * tw2 k) : Nat) : Int) + (pt - ((dl X : Nat) : Int) + min k 0)) := by
  split
  · exact PB_of (by omega)
  · rename_i h2
    obtain ⟨h3, h4⟩ := sh_pt (pt := pt) hk h2
    exact PB_st h (by omega) (by omega)
theorem nb_un {X n kf s v v' : Nat} {ex : Int} (h : NBR X n ex kf s v) (h' : NBR X n ex kf s v') : v = v' := by
  unfold NBR at h h'
  rcases h with ⟨a, ⟨b, c⟩ | ⟨b, b2, c⟩⟩ | ⟨a, ⟨b, c⟩ | ⟨b, b2, c⟩⟩ <;> rcases h' with ⟨a', ⟨b', c'⟩ | ⟨b', b2', c'⟩⟩ | ⟨a', ⟨b', c'⟩ | ⟨b', b2', c'⟩⟩ <;> first | (rw [c, c']; done) | exact absurd a a' | exact absurd a' a | exact absurd b b' | exact absurd b' b
theorem nb_x {X n kf s v : Nat} {ex : Int} (h : NBR X n ex kf s v) (h' : NBno X n ex kf s) : False := by
  unfold NBR at h
  obtain ⟨h1, h2⟩ := h'
  rcases h with ⟨a, ⟨b, c⟩ | ⟨b, b2, c⟩⟩ | ⟨a, ⟨b, c⟩ | ⟨b, b2, c⟩⟩
  · exact h2 b
  · exact h1 b2
  · exact h1 b
  · exact h2 b2
theorem nb_dl {X n kf s v : Nat} {ex : Int} (hn : n ≤ dl X) (h : NBR X n ex kf s v) : dl v ≤ n + 1 := by
  have h1 : X / 10 ^ (dl X - n) < 10 ^ n := by
    have := dl_lt (X / 10 ^ (dl X - n))
    rw [dl_div, show dl X - (dl X - n) = n by omega] at this
    exact this
  have h2 : v ≤ X / 10 ^ (dl X - n) + 1 := by
    unfold NBR at h
    rcases h with ⟨a, ⟨b, c⟩ | ⟨b, b2, c⟩⟩ | ⟨a, ⟨b, c⟩ | ⟨b, b2, c⟩⟩ <;> omega
  refine dl_bound ?_
  have h3 : 10 ^ n < 10 ^ (n + 1) := p10_lt' (by omega)
  omega
theorem sh_un {Y kf y n v n' v' : Nat} {e0 : Int} (h2 : 2 ≤ n) (hno : ∀ j, 2 ≤ j → j < n → NBno Y j (e0 - (j : Int)) kf y) (hr : NBR Y n (e0 - (n : Int)) kf y v)
    (h2' : 2 ≤ n') (hno' : ∀ j, 2 ≤ j → j < n' → NBno Y j (e0 - (j : Int)) kf y) (hr' : NBR Y n' (e0 - (n' : Int)) kf y v') : n = n' ∧ v = v' := by
  have h : n = n' := by
    rcases Nat.lt_trichotomy n n' with z | z | z
    · exact (nb_x hr (hno' n h2 z)).elim
    · exact z
    · exact (nb_x hr' (hno n' h2' z)).elim
  subst h
  exact ⟨rfl, nb_un hr hr'⟩
theorem sho_pt {Y n v : Nat} {kf y : Nat} {e0 ex : Int} (he : -20000 ≤ e0 ∧ e0 ≤ 20000) (hn : n < dl Y) (hY : dl Y ≤ 1200) (hr : NBR Y n ex kf y v) : -100000 ≤ (if v = 0 then 0 else ((dl v : Nat) : Int) + (e0 - (n : Int))) ∧ (if v = 0 then 0 else ((dl v : Nat) : Int) + (e0 - (n : Int))) ≤ 100000 := by
  have := nb_dl (by omega) hr
  split
  · exact ⟨by omega, by omega⟩
  · exact ⟨by omega, by omega⟩
theorem ex_rz {kf y : Nat} (hkf : kf < 2) (hy : y < ifz kf) : dl (rz (exV kf y)) ≤ 1200 := Nat.le_trans (dl_mono (rz_le _)) (ex_dl hkf hy)
