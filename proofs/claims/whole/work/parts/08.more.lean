theorem upd_lo {g : Nat → Int32} {i : Nat} {x : Int32} {P : Nat → Int32} (h : ∀ j, j < i → g j = P j) (hx : x = P i) : ∀ j, j < i + 1 → upd g i x j = P j := by
  intro j hj
  by_cases e : j = i
  · subst e; rw [pk_us, hx]
  · rw [pk_un e]; exact h j (by omega)
theorem upd_hi {g : Nat → Int32} {i n : Nat} {x : Int32} {P : Nat → Int32} (h : ∀ j, i ≤ j → j < n → g j = P j) : ∀ j, i + 1 ≤ j → j < n → upd g i x j = P j := by
  intro j h1 h2
  rw [pk_un (by omega)]; exact h j (by omega) h2
