theorem pu_PB {t X i X1 : Nat} {pt pt1 k d : Int} (h : PB t pt) (hk : -400 ≤ k ∧ k ≤ 400) (hv : (d = 0 ∧ X1 = X ∧ pt1 = pt) ∨ (0 < d ∧ X1 = apX X i d.toNat ∧ pt1 = if X = 0 then -k else pt)) : PB (t + 1) pt1 := by
  rcases hv with ⟨a1, a2, a3⟩ | ⟨a1, a2, a3⟩
  · rw [a3]; exact PB_s h
  · rw [a3]
    split
    · exact PB_of ⟨by omega, by omega⟩
    · exact PB_s h
theorem pu_0 {X i X1 : Nat} {pt pt1 k d : Int} (h0 : X = 0 → pt = 0) (hv : (d = 0 ∧ X1 = X ∧ pt1 = pt) ∨ (0 < d ∧ X1 = apX X i d.toNat ∧ pt1 = if X = 0 then -k else pt)) : X1 = 0 → pt1 = 0 := by
  intro h
  rcases hv with ⟨a1, a2, a3⟩ | ⟨a1, a2, a3⟩
  · rw [a3]; exact h0 (by omega)
  · rw [a2] at h; exact absurd h (ap_0 (by omega))
theorem mv_PB {t X : Nat} {pt k : Int} (h : PB t pt) (hm : X = 0 ∨ (-10000 ≤ pt + k ∧ pt + k ≤ 10000)) : PB (t + 1) (if X = 0 then pt else pt + k) := by
  split
  · exact PB_s h
  · exact PB_of ⟨by omega, by omega⟩
theorem kf_PB {t Y : Nat} {pt : Int} (h : PB t pt) : PB (t + 1) (if Y = 0 then 0 else pt) := by
  split
  · exact PB_of ⟨by omega, by omega⟩
  · exact PB_s h
theorem up_PB {t Y j : Nat} {pt : Int} (h : PB t pt) : PB (t + 1) (if Y = 10 ^ j then pt + 1 else pt) := by
  split
  · exact PB_st h (by omega) (by omega)
  · exact PB_s h
theorem ro_w (X : Nat) (pt y1 : Int) : (y1 < -2000 ∨ 2000 < y1) ∨ ((-2000 ≤ y1 ∧ y1 ≤ 2000) ∧ (pt + y1 < 0 ∨ ((dl X : Nat) : Int) ≤ pt + y1 ∨ X / 10 ^ (dl X - 1 - (pt + y1).toNat) % 10 < 5)) ∨ ((-2000 ≤ y1 ∧ y1 ≤ 2000) ∧ ∃ j : Nat, pt + y1 = (j : Int) ∧ j < dl X ∧ 5 ≤ X / 10 ^ (dl X - 1 - j) % 10) := by
  by_cases h1 : y1 < -2000 ∨ 2000 < y1
  · exact Or.inl h1
  · by_cases h2 : pt + y1 < 0 ∨ ((dl X : Nat) : Int) ≤ pt + y1 ∨ X / 10 ^ (dl X - 1 - (pt + y1).toNat) % 10 < 5
    · exact Or.inr (Or.inl ⟨by omega, h2⟩)
    · refine Or.inr (Or.inr ⟨by omega, (pt + y1).toNat, by omega, by omega, ?_⟩)
      exact Nat.le_of_not_lt (fun h3 => h2 (Or.inr (Or.inr h3)))
/-! the law's loop: what holds between two calls -/
def lwC (p : Program) (s : State) (m : MethodId) (c : Code) (b L : Nat) (xs : Nat → Int32) (D : va_G) (cB cI cJ : ClassId) (t5 : Nat) (ad : Nat → Nat) (A : Nat → Prop) : Prop :=
  p.tables.exec = Jvm.exec ∧ c.code = b_La_law ∧ c.maxLocals = 7 ∧ s.vm.findClass "ExactDigitsLaw" = some m.cls ∧ (∀ w ∈ Cond.initialized "ExactDigits" :: gw, w.before #[Value.ref b] s = true) ∧ va_X b L xs s s.heap ∧ b < s.heap.size ∧ eX t5 ad A s ∧ va_K D ecl (tyS cB cI cJ) s ∧ (∀ q, s.heap.size ≤ q → A q) ∧ (∀ q, A q → s.heap.size ≤ q)
def lwS (D : va_G) (cB cI cJ : ClassId) (A : Nat → Prop) (H0 H : Heap) (locs : List Loc) (x dg q pa mo nb nd un ud ov od xx xd dc dw ou : Nat) (t cn sn : Nat) : Prop :=
  ∃ (g f d du dv dx fw : Nat → Int32) (o : Nat → Int64) (X fr to : Nat) (pt zl zs n1 p1 n2 p2 n3 p3 th pw zk : Int) (ma : Int64), nm_ok g X ∧ nm_ok d X ∧ PB t pt ∧ (X = 0 → pt = 0) ∧ (zl = 0 ∨ zl = 1) ∧ dz_ok fw fr to ∧ cn ≤ 16 + t ∧ sn ≤ 18804 + 6 * t ∧
    va_P D ecl [(x, .inr (1, [.ref dg, .int (iI (((dl X : Nat) : Int))), .int (iI (pt)), .int (iI (zl)), .ref q])), (dg, .inl (cB, 1200, .inl g)), (q, .inr (0, [.ref pa, .int (iI (zs))])), (pa, .inl (cI, 306, .inl f)), (mo, .inr (4, [.ref nb, .ref un, .ref ov, .ref xx, .ref dc, .int (iI (zl)), .int (iI (th)), .long (ma), .int (iI (pw)), .int (iI (zk))])), (nb, .inr (3, [.ref nd, .int (iI (((dl X : Nat) : Int))), .int (iI (pt))])), (nd, .inl (cB, 4200, .inl d)), (un, .inr (3, [.ref ud, .int (iI (n1)), .int (iI (p1))])), (ud, .inl (cB, 4200, .inl du)), (ov, .inr (3, [.ref od, .int (iI (n2)), .int (iI (p2))])), (od, .inl (cB, 4200, .inl dv)), (xx, .inr (3, [.ref xd, .int (iI (n3)), .int (iI (p3))])), (xd, .inl (cB, 4200, .inl dx)), (dc, .inr (2, [.ref dw, .int (iI ((fr : Int))), .int (iI ((to : Int)))])), (dw, .inl (cI, 465, .inl fw)), (ou, .inl (cJ, 1, .inr (.inl o)))] H ∧ va_D A [(x, .inr (1, [.ref dg, .int (iI (((dl X : Nat) : Int))), .int (iI (pt)), .int (iI (zl)), .ref q])), (dg, .inl (cB, 1200, .inl g)), (q, .inr (0, [.ref pa, .int (iI (zs))])), (pa, .inl (cI, 306, .inl f)), (mo, .inr (4, [.ref nb, .ref un, .ref ov, .ref xx, .ref dc, .int (iI (zl)), .int (iI (th)), .long (ma), .int (iI (pw)), .int (iI (zk))])), (nb, .inr (3, [.ref nd, .int (iI (((dl X : Nat) : Int))), .int (iI (pt))])), (nd, .inl (cB, 4200, .inl d)), (un, .inr (3, [.ref ud, .int (iI (n1)), .int (iI (p1))])), (ud, .inl (cB, 4200, .inl du)), (ov, .inr (3, [.ref od, .int (iI (n2)), .int (iI (p2))])), (od, .inl (cB, 4200, .inl dv)), (xx, .inr (3, [.ref xd, .int (iI (n3)), .int (iI (p3))])), (xd, .inl (cB, 4200, .inl dx)), (dc, .inr (2, [.ref dw, .int (iI ((fr : Int))), .int (iI ((to : Int)))])), (dw, .inl (cI, 465, .inl fw)), (ou, .inl (cJ, 1, .inr (.inl o)))] ∧ va_S A H0 H locs
