/-! shortest: the neighbours with n digits, and which read back -/
def upN (X n : Nat) : Prop := 5 < X / 10 ^ (dl X - 1 - n) % 10 ∨ (X / 10 ^ (dl X - 1 - n) % 10 = 5 ∧ (n + 1 < dl X ∨ X / 10 ^ (dl X - n) % 2 = 1))
theorem NR_c {sz inf P M r : Nat} {b b' : Prop} (hb : b ↔ b') (h : NR sz inf P M b r) : NR sz inf P M b' r := by
  have e : b = b' := propext hb
  rw [← e]; exact h
/-- v times 10 to ex reads back to s -/
def RB (v : Nat) (ex : Int) (kf s : Nat) : Prop := NR (fbz kf + 1) (ifz kf) (nP v ex kf) (nM ex) False s
theorem RB_of {v kf s rn : Nat} {ex : Int} (h : NR (fbz kf + 1) (ifz kf) (nP v ex kf) (nM ex) False rn) : RB v ex kf s ↔ rn = s := by
  constructor
  · intro z; exact NR_un (by omega) h z
  · rintro rfl; exact h
/-- the neighbour that is given: the nearer one if it reads back, else the other -/
def NBR (X n : Nat) (ex : Int) (kf s v : Nat) : Prop :=
  (upN X n ∧ ((RB (X / 10 ^ (dl X - n) + 1) ex kf s ∧ v = X / 10 ^ (dl X - n) + 1) ∨ (¬ RB (X / 10 ^ (dl X - n) + 1) ex kf s ∧ RB (X / 10 ^ (dl X - n)) ex kf s ∧ v = X / 10 ^ (dl X - n)))) ∨
  (¬ upN X n ∧ ((RB (X / 10 ^ (dl X - n)) ex kf s ∧ v = X / 10 ^ (dl X - n)) ∨ (¬ RB (X / 10 ^ (dl X - n)) ex kf s ∧ RB (X / 10 ^ (dl X - n) + 1) ex kf s ∧ v = X / 10 ^ (dl X - n) + 1)))
def NBno (X n : Nat) (ex : Int) (kf s : Nat) : Prop := ¬ RB (X / 10 ^ (dl X - n)) ex kf s ∧ ¬ RB (X / 10 ^ (dl X - n) + 1) ex kf s
theorem nb_18 {X n : Nat} (hn : n ≤ dl X) (h18 : n ≤ 18) : X / 10 ^ (dl X - n) < 1000000000000000000 := by
  have h : X / 10 ^ (dl X - n) < 10 ^ n := by
    have := dl_lt (X / 10 ^ (dl X - n))
    rw [dl_div, show dl X - (dl X - n) = n by omega] at this
    exact this
  have : 10 ^ n ≤ 10 ^ 18 := p10_le h18
  omega
