/-! rows of the reference -/
theorem fit_d : ∀ d, d < 10 → fits .byte (.int (iI ((d : Nat) : Int))) = true := by decide +kernel
section EdRows3
variable {p : Program} {l : Launch} {e : Env} {R : Room} {s : State} {m : MethodId} {args : Array Value} {below : List Frame} {meth : Method} {c : Code} {H : Heap} {locs : List Loc} {cells slots : Nat} {Q : State → Prop} {cc : ByteArray} {pc : Nat} {ls : Array Slot} {rest : List Value} {D : va_G} {cl : List vw_C} {tys : List (ClassId × FieldType)} {ws : va_W} {A : Nat → Prop} {H0 : Heap}
theorem ed_copyb (hx : p.tables.exec = Jvm.exec) (hb : c.code = cc) (hml : c.maxLocals = ls.size) {own : String} {index : Nat} (hown : s.vm.findClass own = some m.cls) (hlink : (Cond.methodLink own index arraycopyName).before args s = true) (hnat : (Cond.native arraycopyName).before args s = true) (hstat : (Cond.static arraycopyName).before args s = true) (hini : (Cond.initialized "java/lang/System").before args s = true) (hK : va_K D cl tys s) (hP : va_P D cl ws H) (hD : va_D A ws) (hS : va_S A H0 H locs) (q0 q1 t0 : Nat) {a0 a : Nat} {c0 : ClassId} {n0 n1 : Nat} {f g : Nat → Int32}
    (ha0 : ws[q0]? = some (a0, .inl (c0, n0, .inl f))) (ha1 : ws[q1]? = some (a, .inl (c0, n1, .inl g))) (ht0 : tys[t0]? = some (c0, .byte)) {zs zd zn : Int} (sp dp n : Nat) (hzs : zs = (sp : Int)) (hzd : zd = (dp : Int)) (hzn : zn = (n : Int)) (hr : n0 < 2147483648 ∧ n1 < 2147483648) (h4 : sp + n ≤ n0) (h5 : dp + n ≤ n1)
    (hfit : ∀ i, i < n → fits .byte (.int (f (sp + i))) = true) (hframes : 1 ≤ R.frames) (hlocals : (rest.map fun v => v.category).sum + (nativeFrameWords "java/lang/System" "arraycopy" 5 + 11) ≤ R.locals) (hdg : decode cc pc = .ok (.invokestatic index, 3))
    (kk : ∀ (H1 : Heap) (locs1 : List Loc), va_P D cl (ws.set q1 (a, .inl (c0, n1, .inl (va_cpy f g sp dp n)))) H1 → va_D A (ws.set q1 (a, .inl (c0, n1, .inl (va_cpy f g sp dp n)))) → va_S A H0 H1 locs1 → W p l e R s m args below meth c H1 locs1 cells slots Q (F0 m (pc + 3) ls rest)) :
    W p l e R s m args below meth c H locs cells slots Q (F0 m pc ls (.int (iI zn) :: .int (iI zd) :: .ref a :: .int (iI zs) :: .ref a0 :: rest)) := by
  subst hzs; subst hzd; subst hzn
  have e1 : (iI (sp : Int)).toNatClampNeg = sp := iI_clampN (by omega)
  have e2 : (iI (dp : Int)).toNatClampNeg = dp := iI_clampN (by omega)
  have e3 : (iI (n : Int)).toNatClampNeg = n := iI_clampN (by omega)
  refine va_copyi hx hb hml hown hlink hnat hstat hini hK hP hD hS q0 q1 t0 t0 ha0 ha1 ht0 ht0 rfl (by rw [iI_lt0 (by omega)]; omega) (by rw [iI_lt0 (by omega)]; omega) (by rw [iI_lt0 (by omega)]; omega) (by rw [e1, e3]; exact h4) (by rw [e2, e3]; exact h5) (by rw [e1, e3]; exact hfit) hframes hlocals hdg ?_
  rw [e1, e2, e3]
  exact kk
end EdRows3
/-- a row's digits, none 0 behind, none 0 ahead -/
def rw_ok (d : Nat → Int32) (X : Nat) : Prop := rz X = X ∧ dg_ok d (dl X) X
theorem cp_cons {d : Nat → Int32} {j Y e : Nat} (h : dg_ok d j Y) (hY : Y < 10 ^ j) (he : e < 10) : dg_ok (upd (va_cpy d d 0 1 j) 0 (iI ((e : Nat) : Int))) (j + 1) (Y + 10 ^ j * e) := by
  intro i hi
  by_cases z : i = 0
  · subst z
    rw [pk_us]
    have : j + 1 - 1 - 0 = j := by omega
    rw [this, Nat.add_comm, Nat.mul_add_div (p10_pos j), Nat.div_eq_of_lt hY]
    congr 2; omega
  · rw [pk_un z, pk_cpy_in (by omega) (by omega), h (0 + (i - 1)) (by omega)]
    have e1 : j + 1 - 1 - i = j - 1 - (0 + (i - 1)) := by omega
    rw [e1]
    have e2 : 10 ^ j = 10 ^ (j - 1 - (0 + (i - 1))) * 10 ^ i := by rw [← Nat.pow_add]; congr 1; omega
    have e3 : 10 ^ i = 10 * 10 ^ (i - 1) := by rw [← Nat.pow_succ']; congr 1; omega
    have e4 : (Y + 10 ^ j * e) / 10 ^ (j - 1 - (0 + (i - 1))) = 10 ^ i * e + Y / 10 ^ (j - 1 - (0 + (i - 1))) := by
      rw [e2, Nat.mul_assoc, Nat.add_comm, Nat.mul_add_div (p10_pos _)]
    rw [e4, e3, Nat.mul_assoc, Nat.mul_add_mod]
theorem dg_fit {d : Nat → Int32} {L X i : Nat} (h : dg_ok d L X) (hi : i < L) : fits .byte (.int (d i)) = true := by
  rw [h i hi]; exact fit_d _ (dg_lt _ _)
theorem du_20 : ∀ r, r < 20 → ((lN r ||| ((lN r - jI 10) ^^^ jI (-1))).toUInt64 >>> ((iI 63).toInt64.toUInt64 &&& Int64.toUInt64 63)).toInt64 = lN (r / 10) := by decide +kernel
/-- times, in a row: low digits of the product stand, the others are still those of X -/
theorem tr_s {d : Nat → Int32} {X F n j : Nat} {x : Int32} (hj : j < n) (hlo : ∀ i, n - j ≤ i → i < n → d i = iI ((X * F / 10 ^ (n - 1 - i) % 10 : Nat) : Int)) (hx : x = iI ((X * F / 10 ^ j % 10 : Nat) : Int)) :
    ∀ i, n - (j + 1) ≤ i → i < n → upd d (n - 1 - j) x i = iI ((X * F / 10 ^ (n - 1 - i) % 10 : Nat) : Int) := by
  intro i h1 h2
  by_cases e : i = n - 1 - j
  · have : n - 1 - i = j := by omega
    rw [hx, this, e, pk_us]
  · rw [pk_un e]; exact hlo i (by omega) h2
theorem tr_h {d : Nat → Int32} {X n j : Nat} {x : Int32} (hj : j < n) (hhi : ∀ i, i < n - j → d i = iI ((X / 10 ^ (n - 1 - i) % 10 : Nat) : Int)) : ∀ i, i < n - (j + 1) → upd d (n - 1 - j) x i = iI ((X / 10 ^ (n - 1 - i) % 10 : Nat) : Int) := by
  intro i h1
  rw [pk_un (by omega)]; exact hhi i (by omega)
theorem tr_dl {X F : Nat} (hX : 0 < X) (hF : 0 < F) : dl (X * F) = dl X + dl (X * F / 10 ^ dl X) := by
  rw [dl_div]
  have := dl_mono (Nat.le_mul_of_pos_right X hF)
  omega
/-- the carry's digits are laid ahead -/
theorem tr_c {d : Nat → Int32} {Z n mo i : Nat} {x : Int32} (hi : i < mo) (hd : ∀ k, mo - i ≤ k → k < n + mo → d k = iI ((Z / 10 ^ (n + mo - 1 - k) % 10 : Nat) : Int)) (hx : x = iI ((Z / 10 ^ n / 10 ^ i % 10 : Nat) : Int)) :
    ∀ k, mo - (i + 1) ≤ k → k < n + mo → upd d (mo - 1 - i) x k = iI ((Z / 10 ^ (n + mo - 1 - k) % 10 : Nat) : Int) := by
  intro k h1 h2
  by_cases e : k = mo - 1 - i
  · have e2 : n + mo - 1 - k = n + i := by omega
    rw [hx, e2, e, pk_us, Nat.pow_add, Nat.div_div_eq_div_mul]
  · rw [pk_un e]; exact hd k (by omega) h2
theorem tr_cp {d : Nat → Int32} {Z n mo : Nat} (hd : ∀ i, n - n ≤ i → i < n → d i = iI ((Z / 10 ^ (n - 1 - i) % 10 : Nat) : Int)) : ∀ k, mo - 0 ≤ k → k < n + mo → va_cpy d d 0 mo n k = iI ((Z / 10 ^ (n + mo - 1 - k) % 10 : Nat) : Int) := by
  intro k h1 h2
  rw [pk_cpy_in (by omega) (by omega), hd _ (by omega) (by omega)]
  have : n - 1 - (0 + (k - mo)) = n + mo - 1 - k := by omega
  rw [this]
