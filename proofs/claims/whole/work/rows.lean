section
/-! Int32 and Int64 by their numbers: iI z, jI z; rows of the kit said of them -/
def iI (z : Int) : Int32 := Int32.ofInt z
def jI (z : Int) : Int64 := Int64.ofInt z
abbrev iR (z : Int) : Prop := -2147483648 ≤ z ∧ z < 2147483648
abbrev jR (z : Int) : Prop := -9223372036854775808 ≤ z ∧ z < 9223372036854775808
theorem iI_add (a b : Int) : iI a + iI b = iI (a + b) := (Int32.ofInt_add a b).symm
theorem iI_sub (a b : Int) : iI a - iI b = iI (a - b) := (Int32.ofInt_sub a b).symm
theorem iI_mul (a b : Int) : iI a * iI b = iI (a * b) := (Int32.ofInt_mul a b).symm
theorem iI_neg (a : Int) : -iI a = iI (-a) := (Int32.ofInt_neg a).symm
theorem jI_add (a b : Int) : jI a + jI b = jI (a + b) := (Int64.ofInt_add a b).symm
theorem jI_sub (a b : Int) : jI a - jI b = jI (a - b) := (Int64.ofInt_sub a b).symm
theorem jI_mul (a b : Int) : jI a * jI b = jI (a * b) := (Int64.ofInt_mul a b).symm
theorem iI_toInt {z : Int} (h : iR z) : (iI z).toInt = z := Int32.toInt_ofInt_of_le (by have := h.1; omega) (by have := h.2; omega)
theorem jI_toInt {z : Int} (h : jR z) : (jI z).toInt = z := Int64.toInt_ofInt_of_le (by have := h.1; omega) (by have := h.2; omega)
theorem iI_of (x : Int32) : ∃ z : Int, iR z ∧ x = iI z := ⟨x.toInt, ⟨by have := x.le_toInt; omega, by have := x.toInt_lt; omega⟩, (Int32.ofInt_toInt x).symm⟩
theorem jI_of (x : Int64) : ∃ z : Int, jR z ∧ x = jI z := ⟨x.toInt, ⟨by have := x.le_toInt; omega, by have := x.toInt_lt; omega⟩, (Int64.ofInt_toInt x).symm⟩
theorem iI_lt {a b : Int} (ha : iR a) (hb : iR b) : iI a < iI b ↔ a < b := by rw [Int32.lt_iff_toInt_lt, iI_toInt ha, iI_toInt hb]
theorem iI_le {a b : Int} (ha : iR a) (hb : iR b) : iI a ≤ iI b ↔ a ≤ b := by rw [Int32.le_iff_toInt_le, iI_toInt ha, iI_toInt hb]
theorem iI_eq {a b : Int} (ha : iR a) (hb : iR b) : iI a = iI b ↔ a = b := ⟨fun h => by have := congrArg Int32.toInt h; rwa [iI_toInt ha, iI_toInt hb] at this, fun h => by rw [h]⟩
theorem jI_lt {a b : Int} (ha : jR a) (hb : jR b) : jI a < jI b ↔ a < b := by rw [Int64.lt_iff_toInt_lt, jI_toInt ha, jI_toInt hb]
theorem jI_le {a b : Int} (ha : jR a) (hb : jR b) : jI a ≤ jI b ↔ a ≤ b := by rw [Int64.le_iff_toInt_le, jI_toInt ha, jI_toInt hb]
theorem jI_eq {a b : Int} (ha : jR a) (hb : jR b) : jI a = jI b ↔ a = b := ⟨fun h => by have := congrArg Int64.toInt h; rwa [jI_toInt ha, jI_toInt hb] at this, fun h => by rw [h]⟩
theorem iI_0 : iI 0 = 0 := rfl
theorem iI_1 : iI 1 = 1 := rfl
theorem jI_0 : jI 0 = 0 := rfl
theorem iI_lt0 {a : Int} (ha : iR a) : iI a < 0 ↔ a < 0 := iI_lt (b := 0) ha (by omega)
theorem iI_le0 {a : Int} (ha : iR a) : iI a ≤ 0 ↔ a ≤ 0 := iI_le (b := 0) ha (by omega)
theorem iI_ge0 {a : Int} (ha : iR a) : 0 ≤ iI a ↔ 0 ≤ a := iI_le (a := 0) (by omega) ha
theorem iI_gt0 {a : Int} (ha : iR a) : 0 < iI a ↔ 0 < a := iI_lt (a := 0) (by omega) ha
theorem iI_eq0 {a : Int} (ha : iR a) : iI a = 0 ↔ a = 0 := iI_eq (b := 0) ha (by omega)
theorem iI_div {a b : Int} (ha : iR a) (hb : iR b) : iI a / iI b = iI (a.tdiv b) :=
  (Int32.ofInt_tdiv (by rw [Int32.toInt_minValue]; have := ha.1; omega) (by rw [Int32.toInt_maxValue]; have := ha.2; omega) (by rw [Int32.toInt_minValue]; have := hb.1; omega) (by rw [Int32.toInt_maxValue]; have := hb.2; omega)).symm
theorem jI_div {a b : Int} (ha : jR a) (hb : jR b) : jI a / jI b = jI (a.tdiv b) :=
  (Int64.ofInt_tdiv (by rw [Int64.toInt_minValue]; have := ha.1; omega) (by rw [Int64.toInt_maxValue]; have := ha.2; omega) (by rw [Int64.toInt_minValue]; have := hb.1; omega) (by rw [Int64.toInt_maxValue]; have := hb.2; omega)).symm
/-- division of numbers that are not below 0 -/
theorem iI_divP {a b : Int} (ha : iR a) (hb : iR b) (h0 : 0 ≤ a) : iI a / iI b = iI (a / b) := by rw [iI_div ha hb, Int.tdiv_eq_ediv_of_nonneg h0]
theorem jI_divP {a b : Int} (ha : jR a) (hb : jR b) (h0 : 0 ≤ a) : jI a / jI b = jI (a / b) := by rw [jI_div ha hb, Int.tdiv_eq_ediv_of_nonneg h0]
theorem iI_remP {a b : Int} (ha : iR a) (hb : iR b) (h0 : 0 ≤ a) : iI a - iI a / iI b * iI b = iI (a % b) := by
  rw [iI_divP ha hb h0, iI_mul, iI_sub]
  congr 1
  have := Int.emod_add_mul_ediv a b
  rw [Int.mul_comm] at this
  omega
theorem jI_remP {a b : Int} (ha : jR a) (hb : jR b) (h0 : 0 ≤ a) : jI a - jI a / jI b * jI b = jI (a % b) := by
  rw [jI_divP ha hb h0, jI_mul, jI_sub]
  congr 1
  have := Int.emod_add_mul_ediv a b
  rw [Int.mul_comm] at this
  omega
theorem iI_nat (n : Nat) : iI (n : Int) = nI n := Int32.ofInt_eq_ofNat
theorem jI_nat (n : Nat) : jI (n : Int) = lN n := Int64.ofInt_eq_ofNat
theorem iI_clamp {z : Int} (h : iR z) : (iI z).toNatClampNeg = z.toNat := Int32.toNatClampNeg_ofInt_of_le (by have := h.1; omega) (by have := h.2; omega)
theorem iI_clampN {n : Nat} (h : n < 2147483648) : (iI (n : Int)).toNatClampNeg = n := by rw [iI_clamp (by omega)]; rfl
theorem iI_in {z : Int} {n : Nat} (h0 : 0 ≤ z) (h : z < n) (hn : n < 2147483648) : vp_in (iI z) n := by
  rw [vp_in_iff, iI_toInt (by omega)]
  exact ⟨h0, h⟩
theorem iI_toL {z : Int} (h : iR z) : (iI z).toInt64 = jI z := by
  apply Int64.toInt_inj.mp
  rw [Int32.toInt_toInt64, iI_toInt h, jI_toInt (by omega)]
theorem jI_toI (z : Int) : (jI z).toInt32 = iI z := Int64.toInt32_ofInt
theorem iI_byte {z : Int} (h : -128 ≤ z ∧ z < 128) : (iI z).toInt8.toInt32 = iI z := by
  apply Int32.toInt_inj.mp
  rw [iI_toInt (by omega), Int8.toInt_toInt32, Int32.toInt_toInt8, iI_toInt (by omega)]
  exact Int.bmod_eq_of_le (by omega) (by omega)
theorem iI_nar {z : Int} (h : -128 ≤ z ∧ z < 128) : vp_nar .byte (iI z) = iI z := by rw [vp_nar_byte, iI_byte h]
theorem upd_s {f : Nat → Int32} {k : Nat} {x : Int32} : upd f k x k = x := pk_us
theorem upd_n {f : Nat → Int32} {k j : Nat} {x : Int32} (h : j ≠ k) : upd f k x j = f j := pk_un h

section EdRows
variable {p : Program} {l : Launch} {e : Env} {R : Room} {s : State} {m : MethodId} {args : Array Value} {below : List Frame} {meth : Method} {c : Code} {H : Heap} {locs : List Loc} {cells slots : Nat} {Q : State → Prop} {cc : ByteArray} {pc : Nat} {ls : Array Slot} {rest : List Value}
/-- the top of the stack by another name -/
theorem ed_ti {x y : Int32} (h : x = y) (k : W p l e R s m args below meth c H locs cells slots Q (F0 m pc ls (.int y :: rest))) : W p l e R s m args below meth c H locs cells slots Q (F0 m pc ls (.int x :: rest)) := h ▸ k
theorem ed_tl {x y : Int64} (h : x = y) (k : W p l e R s m args below meth c H locs cells slots Q (F0 m pc ls (.long y :: rest))) : W p l e R s m args below meth c H locs cells slots Q (F0 m pc ls (.long x :: rest)) := h ▸ k
/-- the same number, otherwise written -/
theorem ed_tz {x y : Int} (h : x = y) (k : W p l e R s m args below meth c H locs cells slots Q (F0 m pc ls (.int (iI y) :: rest))) : W p l e R s m args below meth c H locs cells slots Q (F0 m pc ls (.int (iI x) :: rest)) := h ▸ k
theorem ed_tj {x y : Int} (h : x = y) (k : W p l e R s m args below meth c H locs cells slots Q (F0 m pc ls (.long (jI y) :: rest))) : W p l e R s m args below meth c H locs cells slots Q (F0 m pc ls (.long (jI x) :: rest)) := h ▸ k
/-- the place by a numeral -/
theorem ed_pc {pc' : Nat} {st : List Value} (h : pc = pc') (k : W p l e R s m args below meth c H locs cells slots Q (F0 m pc' ls st)) : W p l e R s m args below meth c H locs cells slots Q (F0 m pc ls st) := h ▸ k
theorem ed_iadd (hx : p.tables.exec = Jvm.exec) (hb : c.code = cc) {a b : Int} (hdg : decode cc pc = .ok (.iadd, 1)) (k : W p l e R s m args below meth c H locs cells slots Q (F0 m (pc + 1) ls (.int (iI (a + b)) :: rest))) : W p l e R s m args below meth c H locs cells slots Q (F0 m pc ls (.int (iI b) :: .int (iI a) :: rest)) := lv_iadd hx hb hdg (by rw [iI_add]; exact k)
theorem ed_isub (hx : p.tables.exec = Jvm.exec) (hb : c.code = cc) {a b : Int} (hdg : decode cc pc = .ok (.isub, 1)) (k : W p l e R s m args below meth c H locs cells slots Q (F0 m (pc + 1) ls (.int (iI (a - b)) :: rest))) : W p l e R s m args below meth c H locs cells slots Q (F0 m pc ls (.int (iI b) :: .int (iI a) :: rest)) := lv_isub hx hb hdg (by rw [iI_sub]; exact k)
theorem ed_imul (hx : p.tables.exec = Jvm.exec) (hb : c.code = cc) {a b : Int} (hdg : decode cc pc = .ok (.imul, 1)) (k : W p l e R s m args below meth c H locs cells slots Q (F0 m (pc + 1) ls (.int (iI (a * b)) :: rest))) : W p l e R s m args below meth c H locs cells slots Q (F0 m pc ls (.int (iI b) :: .int (iI a) :: rest)) := lv_imul hx hb hdg (by rw [iI_mul]; exact k)
theorem ed_ineg (hx : p.tables.exec = Jvm.exec) (hb : c.code = cc) {a : Int} (hdg : decode cc pc = .ok (.ineg, 1)) (k : W p l e R s m args below meth c H locs cells slots Q (F0 m (pc + 1) ls (.int (iI (-a)) :: rest))) : W p l e R s m args below meth c H locs cells slots Q (F0 m pc ls (.int (iI a) :: rest)) := lv_ineg hx hb hdg (by rw [iI_neg]; exact k)
theorem ed_idiv (hx : p.tables.exec = Jvm.exec) (hb : c.code = cc) {a b : Int} (hdg : decode cc pc = .ok (.idiv, 1)) (ha : iR a) (h0 : 0 ≤ a) (hbb : 0 < b ∧ b < 2147483648) (k : W p l e R s m args below meth c H locs cells slots Q (F0 m (pc + 1) ls (.int (iI (a / b)) :: rest))) : W p l e R s m args below meth c H locs cells slots Q (F0 m pc ls (.int (iI b) :: .int (iI a) :: rest)) := lv_idiv hx hb hdg (by rw [iI_eq0 (by omega)]; omega) (by rw [iI_divP ha (by omega) h0]; exact k)
theorem ed_irem (hx : p.tables.exec = Jvm.exec) (hb : c.code = cc) {a b : Int} (hdg : decode cc pc = .ok (.irem, 1)) (ha : iR a) (h0 : 0 ≤ a) (hbb : 0 < b ∧ b < 2147483648) (k : W p l e R s m args below meth c H locs cells slots Q (F0 m (pc + 1) ls (.int (iI (a % b)) :: rest))) : W p l e R s m args below meth c H locs cells slots Q (F0 m pc ls (.int (iI b) :: .int (iI a) :: rest)) := lv_irem hx hb hdg (by rw [iI_eq0 (by omega)]; omega) (by rw [iI_remP ha (by omega) h0]; exact k)
theorem ed_ladd (hx : p.tables.exec = Jvm.exec) (hb : c.code = cc) {a b : Int} (hdg : decode cc pc = .ok (.ladd, 1)) (k : W p l e R s m args below meth c H locs cells slots Q (F0 m (pc + 1) ls (.long (jI (a + b)) :: rest))) : W p l e R s m args below meth c H locs cells slots Q (F0 m pc ls (.long (jI b) :: .long (jI a) :: rest)) := lv_ladd hx hb hdg (by rw [jI_add]; exact k)
theorem ed_lsub (hx : p.tables.exec = Jvm.exec) (hb : c.code = cc) {a b : Int} (hdg : decode cc pc = .ok (.lsub, 1)) (k : W p l e R s m args below meth c H locs cells slots Q (F0 m (pc + 1) ls (.long (jI (a - b)) :: rest))) : W p l e R s m args below meth c H locs cells slots Q (F0 m pc ls (.long (jI b) :: .long (jI a) :: rest)) := lv_lsub hx hb hdg (by rw [jI_sub]; exact k)
theorem ed_lmul (hx : p.tables.exec = Jvm.exec) (hb : c.code = cc) {a b : Int} (hdg : decode cc pc = .ok (.lmul, 1)) (k : W p l e R s m args below meth c H locs cells slots Q (F0 m (pc + 1) ls (.long (jI (a * b)) :: rest))) : W p l e R s m args below meth c H locs cells slots Q (F0 m pc ls (.long (jI b) :: .long (jI a) :: rest)) := lv_lmul hx hb hdg (by rw [jI_mul]; exact k)
theorem ed_ldiv (hx : p.tables.exec = Jvm.exec) (hb : c.code = cc) {a b : Int} (hdg : decode cc pc = .ok (.ldiv, 1)) (ha : jR a) (h0 : 0 ≤ a) (hbb : 0 < b ∧ b < 9223372036854775808) (k : W p l e R s m args below meth c H locs cells slots Q (F0 m (pc + 1) ls (.long (jI (a / b)) :: rest))) : W p l e R s m args below meth c H locs cells slots Q (F0 m pc ls (.long (jI b) :: .long (jI a) :: rest)) := lv_ldiv hx hb hdg (by intro h; have := (jI_eq (b := 0) (by omega) (by omega)).mp h; omega) (by rw [jI_divP ha (by omega) h0]; exact k)
theorem ed_lrem (hx : p.tables.exec = Jvm.exec) (hb : c.code = cc) {a b : Int} (hdg : decode cc pc = .ok (.lrem, 1)) (ha : jR a) (h0 : 0 ≤ a) (hbb : 0 < b ∧ b < 9223372036854775808) (k : W p l e R s m args below meth c H locs cells slots Q (F0 m (pc + 1) ls (.long (jI (a % b)) :: rest))) : W p l e R s m args below meth c H locs cells slots Q (F0 m pc ls (.long (jI b) :: .long (jI a) :: rest)) := lv_lrem hx hb hdg (by intro h; have := (jI_eq (b := 0) (by omega) (by omega)).mp h; omega) (by rw [jI_remP ha (by omega) h0]; exact k)
theorem ed_i2l (hx : p.tables.exec = Jvm.exec) (hb : c.code = cc) {a : Int} (hdg : decode cc pc = .ok (.i2l, 1)) (ha : iR a) (k : W p l e R s m args below meth c H locs cells slots Q (F0 m (pc + 1) ls (.long (jI a) :: rest))) : W p l e R s m args below meth c H locs cells slots Q (F0 m pc ls (.int (iI a) :: rest)) := lv_i2l hx hb hdg (iI_toL ha) k
theorem ed_l2i (hx : p.tables.exec = Jvm.exec) (hb : c.code = cc) {a : Int} (hdg : decode cc pc = .ok (.l2i, 1)) (k : W p l e R s m args below meth c H locs cells slots Q (F0 m (pc + 1) ls (.int (iI a) :: rest))) : W p l e R s m args below meth c H locs cells slots Q (F0 m pc ls (.long (jI a) :: rest)) := lv_l2i hx hb hdg (jI_toI a) k
theorem ed_i2b (hx : p.tables.exec = Jvm.exec) (hb : c.code = cc) {a : Int} (hdg : decode cc pc = .ok (.i2b, 1)) (ha : -128 ≤ a ∧ a < 128) (k : W p l e R s m args below meth c H locs cells slots Q (F0 m (pc + 1) ls (.int (iI a) :: rest))) : W p l e R s m args below meth c H locs cells slots Q (F0 m pc ls (.int (iI a) :: rest)) := lv_i2b hx hb hdg (iI_byte ha) k

theorem ed_if_eq (hx : p.tables.exec = Jvm.exec) (hb : c.code = cc) {a : Int} {off : Int} {tgt : Nat} (hdg : decode cc pc = .ok (.ifCond .eq off, 3)) (ht : (pc : Int) + off = (tgt : Int)) (ha : iR a) (kt : a = 0 → W p l e R s m args below meth c H locs cells slots Q (F0 m tgt ls rest)) (kf : ¬ a = 0 → W p l e R s m args below meth c H locs cells slots Q (F0 m (pc + 3) ls rest)) : W p l e R s m args below meth c H locs cells slots Q (F0 m pc ls (.int (iI a) :: rest)) := lv_if_eq hx hb hdg ht (fun z => kt ((iI_eq0 ha).mp z)) (fun z => kf (fun z2 => z ((iI_eq0 ha).mpr z2)))
theorem ed_icmp_eq (hx : p.tables.exec = Jvm.exec) (hb : c.code = cc) {a b : Int} {off : Int} {tgt : Nat} (hdg : decode cc pc = .ok (.if_icmp .eq off, 3)) (ht : (pc : Int) + off = (tgt : Int)) (ha : iR a) (hbr : iR b) (kt : a = b → W p l e R s m args below meth c H locs cells slots Q (F0 m tgt ls rest)) (kf : ¬ a = b → W p l e R s m args below meth c H locs cells slots Q (F0 m (pc + 3) ls rest)) : W p l e R s m args below meth c H locs cells slots Q (F0 m pc ls (.int (iI b) :: .int (iI a) :: rest)) := lv_icmp_eq hx hb hdg ht (fun z => kt ((iI_eq ha hbr).mp z)) (fun z => kf (fun z2 => z ((iI_eq ha hbr).mpr z2)))
theorem ed_if_ne (hx : p.tables.exec = Jvm.exec) (hb : c.code = cc) {a : Int} {off : Int} {tgt : Nat} (hdg : decode cc pc = .ok (.ifCond .ne off, 3)) (ht : (pc : Int) + off = (tgt : Int)) (ha : iR a) (kt : ¬ a = 0 → W p l e R s m args below meth c H locs cells slots Q (F0 m tgt ls rest)) (kf : a = 0 → W p l e R s m args below meth c H locs cells slots Q (F0 m (pc + 3) ls rest)) : W p l e R s m args below meth c H locs cells slots Q (F0 m pc ls (.int (iI a) :: rest)) := lv_if_ne hx hb hdg ht (fun z => kt (fun z2 => z ((iI_eq0 ha).mpr z2))) (fun z => kf ((iI_eq0 ha).mp z))
theorem ed_icmp_ne (hx : p.tables.exec = Jvm.exec) (hb : c.code = cc) {a b : Int} {off : Int} {tgt : Nat} (hdg : decode cc pc = .ok (.if_icmp .ne off, 3)) (ht : (pc : Int) + off = (tgt : Int)) (ha : iR a) (hbr : iR b) (kt : ¬ a = b → W p l e R s m args below meth c H locs cells slots Q (F0 m tgt ls rest)) (kf : a = b → W p l e R s m args below meth c H locs cells slots Q (F0 m (pc + 3) ls rest)) : W p l e R s m args below meth c H locs cells slots Q (F0 m pc ls (.int (iI b) :: .int (iI a) :: rest)) := lv_icmp_ne hx hb hdg ht (fun z => kt (fun z2 => z ((iI_eq ha hbr).mpr z2))) (fun z => kf ((iI_eq ha hbr).mp z))
theorem ed_if_lt (hx : p.tables.exec = Jvm.exec) (hb : c.code = cc) {a : Int} {off : Int} {tgt : Nat} (hdg : decode cc pc = .ok (.ifCond .lt off, 3)) (ht : (pc : Int) + off = (tgt : Int)) (ha : iR a) (kt : a < 0 → W p l e R s m args below meth c H locs cells slots Q (F0 m tgt ls rest)) (kf : ¬ a < 0 → W p l e R s m args below meth c H locs cells slots Q (F0 m (pc + 3) ls rest)) : W p l e R s m args below meth c H locs cells slots Q (F0 m pc ls (.int (iI a) :: rest)) := lv_if_lt hx hb hdg ht (fun z => kt ((iI_lt0 ha).mp z)) (fun z => kf (fun z2 => z ((iI_lt0 ha).mpr z2)))
theorem ed_icmp_lt (hx : p.tables.exec = Jvm.exec) (hb : c.code = cc) {a b : Int} {off : Int} {tgt : Nat} (hdg : decode cc pc = .ok (.if_icmp .lt off, 3)) (ht : (pc : Int) + off = (tgt : Int)) (ha : iR a) (hbr : iR b) (kt : a < b → W p l e R s m args below meth c H locs cells slots Q (F0 m tgt ls rest)) (kf : ¬ a < b → W p l e R s m args below meth c H locs cells slots Q (F0 m (pc + 3) ls rest)) : W p l e R s m args below meth c H locs cells slots Q (F0 m pc ls (.int (iI b) :: .int (iI a) :: rest)) := lv_icmp_lt hx hb hdg ht (fun z => kt ((iI_lt ha hbr).mp z)) (fun z => kf (fun z2 => z ((iI_lt ha hbr).mpr z2)))
theorem ed_if_ge (hx : p.tables.exec = Jvm.exec) (hb : c.code = cc) {a : Int} {off : Int} {tgt : Nat} (hdg : decode cc pc = .ok (.ifCond .ge off, 3)) (ht : (pc : Int) + off = (tgt : Int)) (ha : iR a) (kt : 0 ≤ a → W p l e R s m args below meth c H locs cells slots Q (F0 m tgt ls rest)) (kf : ¬ 0 ≤ a → W p l e R s m args below meth c H locs cells slots Q (F0 m (pc + 3) ls rest)) : W p l e R s m args below meth c H locs cells slots Q (F0 m pc ls (.int (iI a) :: rest)) := lv_if_ge hx hb hdg ht (fun z => kt ((iI_ge0 ha).mp z)) (fun z => kf (fun z2 => z ((iI_ge0 ha).mpr z2)))
theorem ed_icmp_ge (hx : p.tables.exec = Jvm.exec) (hb : c.code = cc) {a b : Int} {off : Int} {tgt : Nat} (hdg : decode cc pc = .ok (.if_icmp .ge off, 3)) (ht : (pc : Int) + off = (tgt : Int)) (ha : iR a) (hbr : iR b) (kt : b ≤ a → W p l e R s m args below meth c H locs cells slots Q (F0 m tgt ls rest)) (kf : ¬ b ≤ a → W p l e R s m args below meth c H locs cells slots Q (F0 m (pc + 3) ls rest)) : W p l e R s m args below meth c H locs cells slots Q (F0 m pc ls (.int (iI b) :: .int (iI a) :: rest)) := lv_icmp_ge hx hb hdg ht (fun z => kt ((iI_le hbr ha).mp z)) (fun z => kf (fun z2 => z ((iI_le hbr ha).mpr z2)))
theorem ed_if_gt (hx : p.tables.exec = Jvm.exec) (hb : c.code = cc) {a : Int} {off : Int} {tgt : Nat} (hdg : decode cc pc = .ok (.ifCond .gt off, 3)) (ht : (pc : Int) + off = (tgt : Int)) (ha : iR a) (kt : 0 < a → W p l e R s m args below meth c H locs cells slots Q (F0 m tgt ls rest)) (kf : ¬ 0 < a → W p l e R s m args below meth c H locs cells slots Q (F0 m (pc + 3) ls rest)) : W p l e R s m args below meth c H locs cells slots Q (F0 m pc ls (.int (iI a) :: rest)) := lv_if_gt hx hb hdg ht (fun z => kt ((iI_gt0 ha).mp z)) (fun z => kf (fun z2 => z ((iI_gt0 ha).mpr z2)))
theorem ed_icmp_gt (hx : p.tables.exec = Jvm.exec) (hb : c.code = cc) {a b : Int} {off : Int} {tgt : Nat} (hdg : decode cc pc = .ok (.if_icmp .gt off, 3)) (ht : (pc : Int) + off = (tgt : Int)) (ha : iR a) (hbr : iR b) (kt : b < a → W p l e R s m args below meth c H locs cells slots Q (F0 m tgt ls rest)) (kf : ¬ b < a → W p l e R s m args below meth c H locs cells slots Q (F0 m (pc + 3) ls rest)) : W p l e R s m args below meth c H locs cells slots Q (F0 m pc ls (.int (iI b) :: .int (iI a) :: rest)) := lv_icmp_gt hx hb hdg ht (fun z => kt ((iI_lt hbr ha).mp z)) (fun z => kf (fun z2 => z ((iI_lt hbr ha).mpr z2)))
theorem ed_if_le (hx : p.tables.exec = Jvm.exec) (hb : c.code = cc) {a : Int} {off : Int} {tgt : Nat} (hdg : decode cc pc = .ok (.ifCond .le off, 3)) (ht : (pc : Int) + off = (tgt : Int)) (ha : iR a) (kt : a ≤ 0 → W p l e R s m args below meth c H locs cells slots Q (F0 m tgt ls rest)) (kf : ¬ a ≤ 0 → W p l e R s m args below meth c H locs cells slots Q (F0 m (pc + 3) ls rest)) : W p l e R s m args below meth c H locs cells slots Q (F0 m pc ls (.int (iI a) :: rest)) := lv_if_le hx hb hdg ht (fun z => kt ((iI_le0 ha).mp z)) (fun z => kf (fun z2 => z ((iI_le0 ha).mpr z2)))
theorem ed_icmp_le (hx : p.tables.exec = Jvm.exec) (hb : c.code = cc) {a b : Int} {off : Int} {tgt : Nat} (hdg : decode cc pc = .ok (.if_icmp .le off, 3)) (ht : (pc : Int) + off = (tgt : Int)) (ha : iR a) (hbr : iR b) (kt : a ≤ b → W p l e R s m args below meth c H locs cells slots Q (F0 m tgt ls rest)) (kf : ¬ a ≤ b → W p l e R s m args below meth c H locs cells slots Q (F0 m (pc + 3) ls rest)) : W p l e R s m args below meth c H locs cells slots Q (F0 m pc ls (.int (iI b) :: .int (iI a) :: rest)) := lv_icmp_le hx hb hdg ht (fun z => kt ((iI_le ha hbr).mp z)) (fun z => kf (fun z2 => z ((iI_le ha hbr).mpr z2)))
variable {D : va_G} {cl : List vw_C} {tys : List (ClassId × FieldType)} {ws : va_W} {A : Nat → Prop} {H0 : Heap} {a : Nat} {cA : ClassId} {n : Nat} {f : Nat → Int32}
theorem ed_iald (hx : p.tables.exec = Jvm.exec) (hb : c.code = cc) (hK : va_K D cl tys s) (hP : va_P D cl ws H) (q0 t0 : Nat) (ha : ws[q0]? = some (a, .inl (cA, n, .inl f))) (ht : tys[t0]? = some (cA, .int)) {z y : Int} (i : Nat) (hi : z = (i : Int)) (hin : i < n) (hn : n < 2147483648) (hy : f i = iI y) (hdg : decode cc pc = .ok (.iaload, 1)) (kk : W p l e R s m args below meth c H locs cells slots Q (F0 m (pc + 1) ls (.int (iI y) :: rest))) : W p l e R s m args below meth c H locs cells slots Q (F0 m pc ls (.int (iI z) :: .ref a :: rest)) := by
  subst hi
  refine va_iald hx hb hK hP q0 t0 ha ht (iI_in (by omega) (by omega) hn) hdg ?_
  rw [iI_clampN (by omega), hy]
  exact kk
theorem ed_bald (hx : p.tables.exec = Jvm.exec) (hb : c.code = cc) (hK : va_K D cl tys s) (hP : va_P D cl ws H) (q0 t0 : Nat) (ha : ws[q0]? = some (a, .inl (cA, n, .inl f))) (ht : tys[t0]? = some (cA, .byte)) {z y : Int} (i : Nat) (hi : z = (i : Int)) (hin : i < n) (hn : n < 2147483648) (hy : f i = iI y) (hdg : decode cc pc = .ok (.baload, 1)) (kk : W p l e R s m args below meth c H locs cells slots Q (F0 m (pc + 1) ls (.int (iI y) :: rest))) : W p l e R s m args below meth c H locs cells slots Q (F0 m pc ls (.int (iI z) :: .ref a :: rest)) := by
  subst hi
  refine va_bald hx hb hK hP q0 t0 ha ht (iI_in (by omega) (by omega) hn) hdg ?_
  rw [iI_clampN (by omega), hy]
  exact kk
theorem ed_iast (hx : p.tables.exec = Jvm.exec) (hb : c.code = cc) (hK : va_K D cl tys s) (hP : va_P D cl ws H) (hD : va_D A ws) (hS : va_S A H0 H locs) (q0 t0 : Nat) (ha : ws[q0]? = some (a, .inl (cA, n, .inl f))) (ht : tys[t0]? = some (cA, .int)) {z : Int} {x : Int32} (i : Nat) (hi : z = (i : Int)) (hin : i < n) (hn : n < 2147483648) (hdg : decode cc pc = .ok (.iastore, 1)) (kk : ∀ (H1 : Heap) (locs1 : List Loc), va_P D cl (ws.set q0 (a, .inl (cA, n, .inl (upd f i x)))) H1 → va_D A (ws.set q0 (a, .inl (cA, n, .inl (upd f i x)))) → va_S A H0 H1 locs1 → W p l e R s m args below meth c H1 locs1 cells slots Q (F0 m (pc + 1) ls rest)) : W p l e R s m args below meth c H locs cells slots Q (F0 m pc ls (.int x :: .int (iI z) :: .ref a :: rest)) := by
  subst hi
  refine va_iast hx hb hK hP hD hS q0 t0 ha ht (iI_in (by omega) (by omega) hn) hdg ?_
  rw [iI_clampN (by omega)]
  exact kk
theorem ed_bast (hx : p.tables.exec = Jvm.exec) (hb : c.code = cc) (hK : va_K D cl tys s) (hP : va_P D cl ws H) (hD : va_D A ws) (hS : va_S A H0 H locs) (q0 t0 : Nat) (ha : ws[q0]? = some (a, .inl (cA, n, .inl f))) (ht : tys[t0]? = some (cA, .byte)) {z x : Int} (i : Nat) (hi : z = (i : Int)) (hin : i < n) (hn : n < 2147483648) (hv : -128 ≤ x ∧ x < 128) (hdg : decode cc pc = .ok (.bastore, 1)) (kk : ∀ (H1 : Heap) (locs1 : List Loc), va_P D cl (ws.set q0 (a, .inl (cA, n, .inl (upd f i (iI x))))) H1 → va_D A (ws.set q0 (a, .inl (cA, n, .inl (upd f i (iI x))))) → va_S A H0 H1 locs1 → W p l e R s m args below meth c H1 locs1 cells slots Q (F0 m (pc + 1) ls rest)) : W p l e R s m args below meth c H locs cells slots Q (F0 m pc ls (.int (iI x) :: .int (iI z) :: .ref a :: rest)) := by
  subst hi
  refine va_bast hx hb hK hP hD hS q0 t0 ha ht (iI_in (by omega) (by omega) hn) hdg ?_
  rw [iI_clampN (by omega), iI_nar hv]
  exact kk
theorem ed_lif_eq (hx : p.tables.exec = Jvm.exec) (hb : c.code = cc) {a b : Int} {off : Int} {tgt : Nat} (hd1 : decode cc pc = .ok (.lcmp, 1)) (hd2 : decode cc (pc + 1) = .ok (.ifCond .eq off, 3)) (ht : ((pc + 1 : Nat) : Int) + off = (tgt : Int)) (ha : jR a) (hbr : jR b) (kt : a = b → W p l e R s m args below meth c H locs cells slots Q (F0 m tgt ls rest)) (kf : ¬ a = b → W p l e R s m args below meth c H locs cells slots Q (F0 m (pc + 1 + 3) ls rest)) : W p l e R s m args below meth c H locs cells slots Q (F0 m pc ls (.long (jI b) :: .long (jI a) :: rest)) := W.lcmp hx hb hd1 (lv_if_eq hx hb hd2 ht (fun z => kt (((lg_cmp_eq _ _).trans (jI_eq ha hbr)).mp z)) (fun z => kf (fun z2 => z (((lg_cmp_eq _ _).trans (jI_eq ha hbr)).mpr z2))))
theorem ed_lif_ne (hx : p.tables.exec = Jvm.exec) (hb : c.code = cc) {a b : Int} {off : Int} {tgt : Nat} (hd1 : decode cc pc = .ok (.lcmp, 1)) (hd2 : decode cc (pc + 1) = .ok (.ifCond .ne off, 3)) (ht : ((pc + 1 : Nat) : Int) + off = (tgt : Int)) (ha : jR a) (hbr : jR b) (kt : ¬ a = b → W p l e R s m args below meth c H locs cells slots Q (F0 m tgt ls rest)) (kf : a = b → W p l e R s m args below meth c H locs cells slots Q (F0 m (pc + 1 + 3) ls rest)) : W p l e R s m args below meth c H locs cells slots Q (F0 m pc ls (.long (jI b) :: .long (jI a) :: rest)) := W.lcmp hx hb hd1 (lv_if_ne hx hb hd2 ht (fun z => kt (fun z2 => z (((lg_cmp_eq _ _).trans (jI_eq ha hbr)).mpr z2))) (fun z => kf (((lg_cmp_eq _ _).trans (jI_eq ha hbr)).mp z)))
theorem ed_lif_lt (hx : p.tables.exec = Jvm.exec) (hb : c.code = cc) {a b : Int} {off : Int} {tgt : Nat} (hd1 : decode cc pc = .ok (.lcmp, 1)) (hd2 : decode cc (pc + 1) = .ok (.ifCond .lt off, 3)) (ht : ((pc + 1 : Nat) : Int) + off = (tgt : Int)) (ha : jR a) (hbr : jR b) (kt : a < b → W p l e R s m args below meth c H locs cells slots Q (F0 m tgt ls rest)) (kf : ¬ a < b → W p l e R s m args below meth c H locs cells slots Q (F0 m (pc + 1 + 3) ls rest)) : W p l e R s m args below meth c H locs cells slots Q (F0 m pc ls (.long (jI b) :: .long (jI a) :: rest)) := W.lcmp hx hb hd1 (lv_if_lt hx hb hd2 ht (fun z => kt (((lg_cmp_lt _ _).trans (jI_lt ha hbr)).mp z)) (fun z => kf (fun z2 => z (((lg_cmp_lt _ _).trans (jI_lt ha hbr)).mpr z2))))
theorem ed_lif_ge (hx : p.tables.exec = Jvm.exec) (hb : c.code = cc) {a b : Int} {off : Int} {tgt : Nat} (hd1 : decode cc pc = .ok (.lcmp, 1)) (hd2 : decode cc (pc + 1) = .ok (.ifCond .ge off, 3)) (ht : ((pc + 1 : Nat) : Int) + off = (tgt : Int)) (ha : jR a) (hbr : jR b) (kt : b ≤ a → W p l e R s m args below meth c H locs cells slots Q (F0 m tgt ls rest)) (kf : ¬ b ≤ a → W p l e R s m args below meth c H locs cells slots Q (F0 m (pc + 1 + 3) ls rest)) : W p l e R s m args below meth c H locs cells slots Q (F0 m pc ls (.long (jI b) :: .long (jI a) :: rest)) := W.lcmp hx hb hd1 (lv_if_ge hx hb hd2 ht (fun z => kt (((lg_cmp_ge _ _).trans (jI_le hbr ha)).mp z)) (fun z => kf (fun z2 => z (((lg_cmp_ge _ _).trans (jI_le hbr ha)).mpr z2))))
theorem ed_lif_gt (hx : p.tables.exec = Jvm.exec) (hb : c.code = cc) {a b : Int} {off : Int} {tgt : Nat} (hd1 : decode cc pc = .ok (.lcmp, 1)) (hd2 : decode cc (pc + 1) = .ok (.ifCond .gt off, 3)) (ht : ((pc + 1 : Nat) : Int) + off = (tgt : Int)) (ha : jR a) (hbr : jR b) (kt : b < a → W p l e R s m args below meth c H locs cells slots Q (F0 m tgt ls rest)) (kf : ¬ b < a → W p l e R s m args below meth c H locs cells slots Q (F0 m (pc + 1 + 3) ls rest)) : W p l e R s m args below meth c H locs cells slots Q (F0 m pc ls (.long (jI b) :: .long (jI a) :: rest)) := W.lcmp hx hb hd1 (lv_if_gt hx hb hd2 ht (fun z => kt (((lg_cmp_gt _ _).trans (jI_lt hbr ha)).mp z)) (fun z => kf (fun z2 => z (((lg_cmp_gt _ _).trans (jI_lt hbr ha)).mpr z2))))
theorem ed_lif_le (hx : p.tables.exec = Jvm.exec) (hb : c.code = cc) {a b : Int} {off : Int} {tgt : Nat} (hd1 : decode cc pc = .ok (.lcmp, 1)) (hd2 : decode cc (pc + 1) = .ok (.ifCond .le off, 3)) (ht : ((pc + 1 : Nat) : Int) + off = (tgt : Int)) (ha : jR a) (hbr : jR b) (kt : a ≤ b → W p l e R s m args below meth c H locs cells slots Q (F0 m tgt ls rest)) (kf : ¬ a ≤ b → W p l e R s m args below meth c H locs cells slots Q (F0 m (pc + 1 + 3) ls rest)) : W p l e R s m args below meth c H locs cells slots Q (F0 m pc ls (.long (jI b) :: .long (jI a) :: rest)) := W.lcmp hx hb hd1 (lv_if_le hx hb hd2 ht (fun z => kt (((lg_cmp_le _ _).trans (jI_le ha hbr)).mp z)) (fun z => kf (fun z2 => z (((lg_cmp_le _ _).trans (jI_le ha hbr)).mpr z2))))
end EdRows
end
section
/-! Pure numbers: decimal length, zeros behind, digits in base ten and in base 10^9 -/
abbrev BB : Nat := 1000000000
theorem p10_pos (k : Nat) : 0 < 10 ^ k := Nat.pow_pos (by decide)
theorem pB_pos (k : Nat) : 0 < BB ^ k := Nat.pow_pos (by decide)
theorem pB_10 (k : Nat) : BB ^ k = 10 ^ (9 * k) := by rw [Nat.pow_mul]
theorem p10_le {a b : Nat} (h : a ≤ b) : 10 ^ a ≤ 10 ^ b := Nat.pow_le_pow_right (by decide) h
theorem p10_lt {a b : Nat} (h : 10 ^ a < 10 ^ b) : a < b := (Nat.pow_lt_pow_iff_right (by decide)).mp h
theorem p10_lt' {a b : Nat} (h : a < b) : 10 ^ a < 10 ^ b := Nat.pow_lt_pow_right (by decide) h
/-- how many decimal digits -/
def dl (n : Nat) : Nat := if h : 0 < n then dl (n / 10) + 1 else 0
termination_by n
decreasing_by omega
theorem dl_0 : dl 0 = 0 := by rw [dl]; simp
theorem dl_s {n : Nat} (h : 0 < n) : dl n = dl (n / 10) + 1 := by rw [dl]; simp [h]
theorem dl_lt (n : Nat) : n < 10 ^ dl n := by
  induction n using Nat.strongRecOn with
  | ind n ih =>
    rcases Nat.eq_zero_or_pos n with rfl | h
    · rw [dl_0]; decide
    · have := ih (n / 10) (by omega)
      rw [dl_s h, Nat.pow_succ]
      omega
theorem dl_le {n : Nat} (h : 0 < n) : 10 ^ (dl n - 1) ≤ n := by
  induction n using Nat.strongRecOn with
  | ind n ih =>
    rw [dl_s h, Nat.add_sub_cancel]
    rcases Nat.eq_zero_or_pos (n / 10) with h0 | h1
    · rw [h0, dl_0]; exact h
    · have := ih (n / 10) (by omega) h1
      have h2 : dl (n / 10) = (dl (n / 10) - 1) + 1 := by rw [dl_s h1]; omega
      rw [h2, Nat.pow_succ]
      omega
theorem dl_pos {n : Nat} (h : 0 < n) : 0 < dl n := by rw [dl_s h]; omega
theorem dl_eq0 {n : Nat} (h : dl n = 0) : n = 0 := by
  rcases Nat.eq_zero_or_pos n with h0 | h1
  · exact h0
  · have := dl_pos h1; omega
theorem dl_un {n L : Nat} (h1 : n < 10 ^ L) (h2 : 0 < L → 10 ^ (L - 1) ≤ n) : dl n = L := by
  rcases Nat.lt_trichotomy (dl n) L with h | h | h
  · have a := dl_lt n
    have b := h2 (by omega)
    have d := p10_le (show dl n ≤ L - 1 by omega)
    omega
  · exact h
  · have hn : 0 < n := by
      rcases Nat.eq_zero_or_pos n with h0 | h1
      · subst h0; rw [dl_0] at h; omega
      · exact h1
    have a := dl_le hn
    have d := p10_le (show L ≤ dl n - 1 by omega)
    omega
theorem dl_mono {a b : Nat} (h : a ≤ b) : dl a ≤ dl b := by
  rcases Nat.eq_zero_or_pos a with rfl | ha
  · rw [dl_0]; omega
  · have h1 := dl_le ha
    have h2 := dl_lt b
    have h3 : dl a - 1 < dl b := p10_lt (by omega)
    omega
theorem dl_bound {n L : Nat} (h : n < 10 ^ L) : dl n ≤ L := by
  rcases Nat.eq_zero_or_pos n with rfl | ha
  · rw [dl_0]; omega
  · have h1 := dl_le ha
    have h3 : dl n - 1 < L := p10_lt (by omega)
    omega
theorem dl_ge {n L : Nat} (h : 10 ^ L ≤ n) : L < dl n := by
  have h2 := dl_lt n
  exact p10_lt (by omega)
theorem dl_mul {n : Nat} (h : 0 < n) (k : Nat) : dl (n * 10 ^ k) = dl n + k := by
  apply dl_un
  · rw [Nat.pow_add]; exact Nat.mul_lt_mul_of_pos_right (dl_lt n) (p10_pos k)
  · intro _
    have h1 := dl_pos h
    have h2 : dl n + k - 1 = dl n - 1 + k := by omega
    rw [h2, Nat.pow_add]
    exact Nat.mul_le_mul_right _ (dl_le h)
theorem dl_div (n k : Nat) : dl (n / 10 ^ k) = dl n - k := by
  rcases Nat.lt_or_ge n (10 ^ k) with h | h
  · rw [Nat.div_eq_of_lt h, dl_0]
    have := dl_bound h
    omega
  · have hn : 0 < n := Nat.lt_of_lt_of_le (p10_pos k) h
    have hk := dl_ge h
    apply dl_un
    · rw [Nat.div_lt_iff_lt_mul (p10_pos k), ← Nat.pow_add]
      have : dl n - k + k = dl n := by omega
      rw [this]; exact dl_lt n
    · intro _
      rw [Nat.le_div_iff_mul_le (p10_pos k), ← Nat.pow_add]
      have : dl n - k - 1 + k = dl n - 1 := by omega
      rw [this]; exact dl_le hn
/-- without the zeros behind -/
def rz (n : Nat) : Nat := if h : 0 < n ∧ n % 10 = 0 then rz (n / 10) else n
termination_by n
decreasing_by omega
/-- how many zeros stood behind -/
def rt (n : Nat) : Nat := if h : 0 < n ∧ n % 10 = 0 then rt (n / 10) + 1 else 0
termination_by n
decreasing_by omega
theorem rz_y {n : Nat} (h : 0 < n) (h2 : n % 10 = 0) : rz n = rz (n / 10) := by rw [rz]; simp [h, h2]
theorem rz_n {n : Nat} (h : ¬ n % 10 = 0) : rz n = n := by rw [rz]; simp [h]
theorem rz_0 : rz 0 = 0 := by rw [rz]; simp
theorem rt_y {n : Nat} (h : 0 < n) (h2 : n % 10 = 0) : rt n = rt (n / 10) + 1 := by rw [rt]; simp [h, h2]
theorem rt_n {n : Nat} (h : ¬ n % 10 = 0) : rt n = 0 := by rw [rt]; simp [h]
theorem rt_0 : rt 0 = 0 := by rw [rt]; simp
theorem rz_eq (n : Nat) : n = rz n * 10 ^ rt n := by
  induction n using Nat.strongRecOn with
  | ind n ih =>
    rcases Nat.eq_zero_or_pos n with rfl | h
    · rw [rz_0]; simp
    · by_cases h2 : n % 10 = 0
      · have := ih (n / 10) (by omega)
        rw [rz_y h h2, rt_y h h2, Nat.pow_succ, ← Nat.mul_assoc, ← this]
        omega
      · rw [rz_n h2, rt_n h2]; simp
theorem rz_last {n : Nat} (h : 0 < n) : ¬ rz n % 10 = 0 := by
  induction n using Nat.strongRecOn with
  | ind n ih =>
    by_cases h2 : n % 10 = 0
    · rw [rz_y h h2]; exact ih (n / 10) (by omega) (by omega)
    · rw [rz_n h2]; exact h2
theorem rz_pos {n : Nat} (h : 0 < n) : 0 < rz n := by
  have := rz_last h
  omega
theorem rz_mul (n k : Nat) : rz (n * 10 ^ k) = rz n := by
  induction k with
  | zero => simp
  | succ k ih =>
    rcases Nat.eq_zero_or_pos n with rfl | h
    · simp
    · have h1 : n * 10 ^ (k + 1) = n * 10 ^ k * 10 := by rw [Nat.pow_succ, Nat.mul_assoc]
      have h2 : 0 < n * 10 ^ k := Nat.mul_pos h (p10_pos k)
      rw [h1, rz_y (by omega) (by omega), Nat.mul_div_cancel _ (by decide), ih]
theorem rz_un {n d t : Nat} (h : n = d * 10 ^ t) (hd : ¬ d % 10 = 0) : rz n = d := by
  rw [h, rz_mul, rz_n hd]
theorem rz_rz (n : Nat) : rz (rz n) = rz n := by
  rcases Nat.eq_zero_or_pos n with rfl | h
  · rw [rz_0, rz_0]
  · exact rz_n (rz_last h)
theorem dl_rz {n : Nat} (h : 0 < n) : dl n = dl (rz n) + rt n := by
  have h1 := dl_mul (rz_pos h) (rt n)
  rw [← rz_eq n] at h1
  exact h1
theorem rz_le (n : Nat) : rz n ≤ n := by
  have h := rz_eq n
  have h2 : rz n * 1 ≤ rz n * 10 ^ rt n := Nat.mul_le_mul_left _ (p10_pos _)
  omega
/-! digits -/
theorem nb_mod (b V i : Nat) : V % b ^ (i + 1) = V % b ^ i + b ^ i * (V / b ^ i % b) := by rw [Nat.pow_succ, Nat.mod_mul]
/-- 'times': the product at a part -/
theorem tm_prod {b : Nat} (hb : 0 < b) (V F i : Nat) : (V % b ^ (i + 1)) * F / b ^ i = (V / b ^ i % b) * F + (V % b ^ i) * F / b ^ i := by
  rw [nb_mod, Nat.add_comm, Nat.add_mul, Nat.mul_assoc, Nat.mul_add_div (Nat.pow_pos hb)]
theorem tm_carry {b : Nat} (hb : 0 < b) (V F i : Nat) : ((V / b ^ i % b) * F + (V % b ^ i) * F / b ^ i) / b = (V % b ^ (i + 1)) * F / b ^ (i + 1) := by
  rw [← tm_prod hb, Nat.div_div_eq_div_mul, ← Nat.pow_succ]
theorem tm_digit {b : Nat} (hb : 0 < b) (V F i : Nat) : ((V / b ^ i % b) * F + (V % b ^ i) * F / b ^ i) % b = V * F / b ^ i % b := by
  rw [← tm_prod hb]
  have h : V * F = b ^ i * (b * (V / b ^ (i + 1) * F)) + (V % b ^ (i + 1)) * F := by
    have h1 : V = b ^ (i + 1) * (V / b ^ (i + 1)) + V % b ^ (i + 1) := (Nat.div_add_mod V _).symm
    have h2 : V * F = (b ^ (i + 1) * (V / b ^ (i + 1)) + V % b ^ (i + 1)) * F := by rw [← h1]
    rw [h2, Nat.add_mul, Nat.pow_succ]
    simp only [Nat.mul_assoc]
  rw [h, Nat.mul_add_div (Nat.pow_pos hb), Nat.mul_add_mod]
theorem tm_last {b V F i : Nat} (h : V < b ^ i) : (V % b ^ i) * F / b ^ i = V * F / b ^ i := by rw [Nat.mod_eq_of_lt h]
theorem tm_small {b V F i : Nat} (hb : 0 < b) (hF : 0 < F) : (V % b ^ i) * F / b ^ i < F := by
  rw [Nat.div_lt_iff_lt_mul (Nat.pow_pos hb), Nat.mul_comm]
  exact Nat.mul_lt_mul_of_pos_left (Nat.mod_lt _ (Nat.pow_pos hb)) hF
/-- digits of a part -/
theorem pt_digit (x r : Nat) (hr : r < 9) : x % BB / 10 ^ r % 10 = x / 10 ^ r % 10 := by
  have h : BB = 10 ^ r * 10 ^ (9 - r) := by
    rw [← Nat.pow_add]
    have : r + (9 - r) = 9 := by omega
    rw [this]
  rw [h, Nat.mod_mul_right_div_self, Nat.mod_mod_of_dvd]
  exact ⟨10 ^ (9 - r - 1), by rw [← Nat.pow_succ']; congr 1; omega⟩
theorem nb_digit (V q : Nat) : V / BB ^ (q / 9) % BB / 10 ^ (q % 9) % 10 = V / 10 ^ q % 10 := by
  rw [pt_digit _ _ (Nat.mod_lt _ (by decide)), Nat.div_div_eq_div_mul, pB_10, ← Nat.pow_add]
  have : 9 * (q / 9) + q % 9 = q := by omega
  rw [this]
/-- 'setDigits': a digit more -/
theorem sd_step (x t : Nat) : x / 10 % 10 ^ t * 10 + x % 10 = x % 10 ^ (t + 1) := by
  rw [Nat.pow_succ, Nat.mul_comm (10 ^ t) 10, Nat.mod_mul, Nat.mul_comm 10, Nat.add_comm]
/-- the first k of L digits -/
theorem dg_first {D L i : Nat} (h : i < L) : D / 10 ^ (L - (i + 1)) = D / 10 ^ (L - i) * 10 + D / 10 ^ (L - 1 - i) % 10 := by
  have h1 : L - i = L - (i + 1) + 1 := by omega
  have h2 : L - 1 - i = L - (i + 1) := by omega
  rw [h1, h2, Nat.pow_succ, ← Nat.div_div_eq_div_mul]
  omega
/-! the state of a Natural: its parts are those of V -/
def nt_ok (f : Nat → Int32) (sz V : Nat) : Prop := sz ≤ 306 ∧ V < BB ^ sz ∧ (0 < sz → BB ^ (sz - 1) ≤ V) ∧ ∀ i, i < sz → f i = iI ((V / BB ^ i % BB : Nat) : Int)
/-- the digits of D, L of them, stand in f -/
def dg_ok (f : Nat → Int32) (L D : Nat) : Prop := ∀ i, i < L → f i = iI ((D / 10 ^ (L - 1 - i) % 10 : Nat) : Int)
/-- a byte array that holds numbers of a byte -/
def by_ok (f : Nat → Int32) : Prop := ∀ i, ∃ z : Int, -128 ≤ z ∧ z < 128 ∧ f i = iI z
theorem by_up {f : Nat → Int32} {k : Nat} {z : Int} (h : by_ok f) (hz : -128 ≤ z ∧ z < 128) : by_ok (upd f k (iI z)) := fun i => by
  by_cases e : i = k
  · subst e; exact ⟨z, hz.1, hz.2, pk_us⟩
  · obtain ⟨y, a, b, d⟩ := h i; exact ⟨y, a, b, by rw [pk_un e]; exact d⟩
theorem dg_lt (D k : Nat) : D / 10 ^ k % 10 < 10 := Nat.mod_lt _ (by decide)
theorem nb_lt (V i : Nat) : V / BB ^ i % BB < BB := Nat.mod_lt _ (by decide)
theorem nt_len {f : Nat → Int32} {sz V : Nat} (h : nt_ok f sz V) (h0 : 0 < sz) : dl V = 9 * (sz - 1) + dl (V / BB ^ (sz - 1)) := by
  obtain ⟨-, h1, h2, -⟩ := h
  have h3 := h2 h0
  rw [pB_10, dl_div]
  rw [pB_10] at h3
  have := dl_ge h3
  omega
theorem nt_top {f : Nat → Int32} {sz V : Nat} (h : nt_ok f sz V) (h0 : 0 < sz) : V / BB ^ (sz - 1) % BB = V / BB ^ (sz - 1) ∧ 0 < V / BB ^ (sz - 1) := by
  obtain ⟨-, h1, h2, -⟩ := h
  constructor
  · apply Nat.mod_eq_of_lt
    rw [Nat.div_lt_iff_lt_mul (pB_pos _), Nat.mul_comm, ← Nat.pow_succ]
    have : (sz - 1).succ = sz := by omega
    rw [this]; exact h1
  · exact Nat.div_pos (h2 h0) (pB_pos _)
theorem nt_zero {f : Nat → Int32} {sz V : Nat} (h : nt_ok f sz V) : sz = 0 ↔ V = 0 := by
  obtain ⟨-, h1, h2, -⟩ := h
  constructor
  · intro e; subst e; simpa using h1
  · intro e; subst e
    rcases Nat.eq_zero_or_pos sz with h | h
    · exact h
    · have := h2 h; have := pB_pos (sz - 1); omega
theorem rz_mr (a b : Nat) : rz (rz a * b) = rz (a * b) := by
  have h : a * b = rz a * b * 10 ^ rt a := by
    have := rz_eq a
    calc a * b = rz a * 10 ^ rt a * b := by rw [← this]
      _ = rz a * b * 10 ^ rt a := by rw [Nat.mul_right_comm]
  rw [h, rz_mul]
theorem dl_tele {a b : Nat} (ha : 0 < a) (hb : 0 < b) : dl (rz a * b) + dl a = dl (a * b) + dl (rz a) := by
  have h : a * b = rz a * b * 10 ^ rt a := by
    have := rz_eq a
    calc a * b = rz a * 10 ^ rt a * b := by rw [← this]
      _ = rz a * b * 10 ^ rt a := by rw [Nat.mul_right_comm]
  rw [h, dl_mul (Nat.mul_pos (rz_pos ha) hb), dl_rz ha]
  omega
/-- the digits of X without its last, where that is 0 -/
theorem dg_drop {f : Nat → Int32} {n X : Nat} (h : dg_ok f (n + 1) X) : dg_ok f n (X / 10) := by
  intro i hi
  rw [h i (by omega)]
  have e : n + 1 - 1 - i = 1 + (n - 1 - i) := by omega
  rw [e, Nat.pow_add, Nat.pow_one, Nat.div_div_eq_div_mul]
theorem dg_dropk {f : Nat → Int32} {n k X : Nat} (h : dg_ok f (n + k) X) : dg_ok f n (X / 10 ^ k) := by
  intro i hi
  rw [h i (by omega)]
  have e : n + k - 1 - i = k + (n - 1 - i) := by omega
  rw [e, Nat.pow_add, Nat.div_div_eq_div_mul]
theorem dg_pre {f : Nat → Int32} {L D n : Nat} (h : dg_ok f L D) (hn : n ≤ L) : dg_ok f n (D / 10 ^ (L - n)) := by
  have e : n + (L - n) = L := by omega
  exact dg_dropk (k := L - n) (by rw [e]; exact h)
/-- the last of the first i+1 digits -/
theorem dg_last {D L i : Nat} (h : i < L) : D / 10 ^ (L - (i + 1)) % 10 = D / 10 ^ (L - 1 - i) % 10 := by
  have : L - (i + 1) = L - 1 - i := by omega
  rw [this]
theorem p2_10 (k : Nat) : 2 ^ k ≤ 10 ^ k := Nat.pow_le_pow_left (by decide) k
theorem p5_10 (k : Nat) : 5 ^ k ≤ 10 ^ k := Nat.pow_le_pow_left (by decide) k
theorem p5_7 (k : Nat) : 5 ^ (10 * k) ≤ 10 ^ (7 * k) := by
  rw [Nat.pow_mul, Nat.pow_mul]; exact Nat.pow_le_pow_left (by decide) k
theorem p2_4 (k : Nat) : 2 ^ (10 * k) ≤ 10 ^ (4 * k) := by
  rw [Nat.pow_mul, Nat.pow_mul]; exact Nat.pow_le_pow_left (by decide) k
/-- how many bits -/
def bl (n : Nat) : Nat := if h : 0 < n then bl (n / 2) + 1 else 0
termination_by n
decreasing_by omega
theorem bl_0 : bl 0 = 0 := by rw [bl]; simp
theorem bl_s {n : Nat} (h : 0 < n) : bl n = bl (n / 2) + 1 := by rw [bl]; simp [h]
theorem bl_lt (n : Nat) : n < 2 ^ bl n := by
  induction n using Nat.strongRecOn with
  | ind n ih =>
    rcases Nat.eq_zero_or_pos n with rfl | h
    · rw [bl_0]; decide
    · have := ih (n / 2) (by omega)
      rw [bl_s h, Nat.pow_succ]
      omega
theorem bl_le {n : Nat} (h : 0 < n) : 2 ^ (bl n - 1) ≤ n := by
  induction n using Nat.strongRecOn with
  | ind n ih =>
    rw [bl_s h, Nat.add_sub_cancel]
    rcases Nat.eq_zero_or_pos (n / 2) with h0 | h1
    · rw [h0, bl_0]; exact h
    · have := ih (n / 2) (by omega) h1
      have h2 : bl (n / 2) = (bl (n / 2) - 1) + 1 := by rw [bl_s h1]; omega
      rw [h2, Nat.pow_succ]
      omega
theorem bl_pos {n : Nat} (h : 0 < n) : 0 < bl n := by rw [bl_s h]; omega
theorem p2_lt {a b : Nat} (h : 2 ^ a < 2 ^ b) : a < b := (Nat.pow_lt_pow_iff_right (by decide)).mp h
theorem bl_bound {n L : Nat} (h : n < 2 ^ L) : bl n ≤ L := by
  rcases Nat.eq_zero_or_pos n with rfl | ha
  · rw [bl_0]; omega
  · have h1 := bl_le ha
    have h3 : bl n - 1 < L := p2_lt (by omega)
    omega
theorem bl_ge {n L : Nat} (h : 2 ^ L ≤ n) : L < bl n := by
  have h2 := bl_lt n
  exact p2_lt (by omega)
theorem bl_iff {n L : Nat} : bl n ≤ L ↔ n < 2 ^ L := by
  constructor
  · intro h
    exact Nat.lt_of_lt_of_le (bl_lt n) (Nat.pow_le_pow_right (by decide) h)
  · exact bl_bound
theorem bl_un {n L : Nat} (h1 : n < 2 ^ L) (h2 : 0 < L → 2 ^ (L - 1) ≤ n) : bl n = L := by
  have a := bl_bound h1
  rcases Nat.eq_zero_or_pos L with rfl | h
  · omega
  · have := bl_ge (h2 h); omega
end
section
/-! The nearest: P / M counts units of the least; E places are dropped, q is kept, u is counted up -/
theorem p2_pos (k : Nat) : 0 < 2 ^ k := Nat.pow_pos (by decide)
def nr (sz P M E q : Nat) : Prop := q = P / (M * 2 ^ E) ∧ q < 2 ^ sz ∧ (0 < E → 2 ^ (sz - 1) ≤ q)
theorem nr_lt {sz P M E q E' q' : Nat} (hs : 0 < sz) (h : nr sz P M E q) (h' : nr sz P M E' q') : ¬ E < E' := by
  intro hlt
  obtain ⟨d, rfl⟩ : ∃ d, E' = E + (d + 1) := ⟨E' - E - 1, by omega⟩
  obtain ⟨h1, h2, -⟩ := h
  obtain ⟨h1', -, h3'⟩ := h'
  have h3 := h3' (by omega)
  rw [Nat.pow_add, ← Nat.mul_assoc, ← Nat.div_div_eq_div_mul, ← h1, Nat.pow_succ, Nat.mul_comm (2 ^ d), ← Nat.div_div_eq_div_mul] at h1'
  have h4 : q / 2 / 2 ^ d ≤ q / 2 := Nat.div_le_self _ _
  have h5 : 2 ^ sz = 2 ^ (sz - 1) * 2 := by rw [← Nat.pow_succ]; congr 1; omega
  omega
theorem nr_un {sz P M E q E' q' : Nat} (hs : 0 < sz) (h : nr sz P M E q) (h' : nr sz P M E' q') : E = E' ∧ q = q' := by
  have a := nr_lt hs h h'
  have b := nr_lt hs h' h
  have e : E = E' := by omega
  subst e
  exact ⟨rfl, h.1.trans h'.1.symm⟩
def upP (P M E q : Nat) (b : Prop) : Prop := (2 * q + 1) * (M * 2 ^ E) < 2 * P ∨ ((2 * q + 1) * (M * 2 ^ E) = 2 * P ∧ (b ∨ q % 2 = 1))
def NR (sz inf P M : Nat) (b : Prop) (r : Nat) : Prop := ∃ E q u, nr sz P M E q ∧ ((u = 1 ∧ upP P M E q b) ∨ (u = 0 ∧ ¬ upP P M E q b)) ∧ r = min inf (E * 2 ^ (sz - 1) + q + u)
theorem NR_un {sz inf P M : Nat} {b : Prop} {r r' : Nat} (hs : 0 < sz) (h : NR sz inf P M b r) (h' : NR sz inf P M b r') : r = r' := by
  obtain ⟨E, q, u, h1, h2, h3⟩ := h
  obtain ⟨E', q', u', h1', h2', h3'⟩ := h'
  obtain ⟨rfl, rfl⟩ := nr_un hs h1 h1'
  rcases h2 with ⟨rfl, a⟩ | ⟨rfl, a⟩ <;> rcases h2' with ⟨rfl, a'⟩ | ⟨rfl, a'⟩
  · rw [h3, h3']
  · exact absurd a a'
  · exact absurd a' a
  · rw [h3, h3']
/-- what is kept in two ways is one -/
theorem cn_un {w E q E' q' : Nat} (h2 : q < 2 * w) (h3 : 0 < E → w ≤ q) (h2' : q' < 2 * w) (h3' : 0 < E' → w ≤ q') (h : E * w + q = E' * w + q') : E = E' ∧ q = q' := by
  have key : ∀ {E q E' q' : Nat}, q < 2 * w → (0 < E' → w ≤ q') → E * w + q = E' * w + q' → ¬ E < E' := by
    intro E q E' q' h2 h3' h hlt
    have h5 := h3' (by omega)
    obtain ⟨d, rfl⟩ : ∃ d, E' = E + (d + 1) := ⟨E' - E - 1, by omega⟩
    rw [Nat.add_mul, Nat.add_mul, Nat.one_mul] at h
    omega
  have a := key h2 h3' h
  have b := key h2' h3 h.symm
  have e : E = E' := by omega
  subst e
  exact ⟨rfl, by omega⟩
/-- the numbers that read back to what is kept: (E, m) -/
def inI (sz P M E m : Nat) : Prop :=
  (2 * P < (2 * m + 1) * (M * 2 ^ E) ∨ (2 * P = (2 * m + 1) * (M * 2 ^ E) ∧ m % 2 = 0)) ∧
  ((m = 2 ^ (sz - 1) ∧ 0 < E ∧ (4 * m - 1) * (M * 2 ^ E) ≤ 4 * P) ∨
   (¬ (m = 2 ^ (sz - 1) ∧ 0 < E) ∧ ((2 * m - 1) * (M * 2 ^ E) < 2 * P ∨ ((2 * m - 1) * (M * 2 ^ E) = 2 * P ∧ m % 2 = 0))))
theorem dv_le {P K q : Nat} (hK : 0 < K) (h : q = P / K) : q * K ≤ P ∧ P < (q + 1) * K := by
  subst h
  exact ⟨Nat.div_mul_le_self _ _, by rw [Nat.mul_comm]; exact Nat.lt_mul_div_succ _ hK⟩
theorem dv_eq {P K q : Nat} (h1 : q * K ≤ P) (h2 : P < (q + 1) * K) : q = P / K := by
  symm
  have hK : 0 < K := by
    rcases Nat.eq_zero_or_pos K with h | h
    · subst h; simp at h2
    · exact h
  apply Nat.le_antisymm
  · have := (Nat.div_lt_iff_lt_mul hK).mpr h2
    omega
  · exact (Nat.le_div_iff_mul_le hK).mpr h1
theorem rb_of {sz inf P M r E m : Nat} (hs : 2 ≤ sz) (hM : 0 < M) (h : NR sz inf P M False r) (hm : 0 < m) (hm2 : m < 2 ^ sz) (hc : 0 < E → 2 ^ (sz - 1) ≤ m) (hinf : E * 2 ^ (sz - 1) + m < inf) (hr : r = E * 2 ^ (sz - 1) + m) : inI sz P M E m := by
  obtain ⟨E', q, u, ⟨h1, h2, h3⟩, hu, h4⟩ := h
  have hw : 2 ^ sz = 2 * 2 ^ (sz - 1) := by rw [← Nat.pow_succ']; congr 1; omega
  have hw1 : 2 ^ (sz - 1) = 2 * 2 ^ (sz - 2) := by rw [← Nat.pow_succ']; congr 1; omega
  have hk := p2_pos (sz - 2)
  have hK : 0 < M * 2 ^ E' := Nat.mul_pos hM (p2_pos _)
  obtain ⟨b1, b2⟩ := dv_le hK h1
  have hr2 : E * 2 ^ (sz - 1) + m = E' * 2 ^ (sz - 1) + q + u := by omega
  generalize hwv : 2 ^ (sz - 1) = w at *
  rcases hu with ⟨rfl, hup⟩ | ⟨rfl, hup⟩
  · rcases Nat.lt_or_ge (q + 1) (2 * w) with hq | hq
    · obtain ⟨rfl, rfl⟩ := cn_un (by omega) hc hq (fun z => by have := h3 z; omega) (hr2.trans (by omega) : E * w + m = E' * w + (q + 1))
      refine ⟨Or.inl ?_, Or.inr ⟨fun ⟨z1, z2⟩ => ?_, ?_⟩⟩
      · have e : (2 * (q + 1) + 1) * (M * 2 ^ E) = 2 * ((q + 1) * (M * 2 ^ E)) + M * 2 ^ E := by rw [Nat.add_mul, Nat.mul_assoc]; omega
        omega
      · have := h3 z2; omega
      · have e : 2 * (q + 1) - 1 = 2 * q + 1 := by omega
        rw [e]
        rcases hup with hup | ⟨hup, hf | hodd⟩
        · exact Or.inl hup
        · exact hf.elim
        · exact Or.inr ⟨hup, by omega⟩
    · have hq2 : q + 1 = 2 * w := by omega
      have e0 : E * w + m = (E' + 1) * w + w := by rw [Nat.add_mul]; omega
      obtain ⟨rfl, rfl⟩ := cn_un (by omega) hc (by omega) (fun _ => Nat.le_refl _) e0
      have e2 : M * 2 ^ (E' + 1) = 2 * (M * 2 ^ E') := by rw [Nat.pow_succ, ← Nat.mul_assoc]; omega
      unfold upP at hup
      generalize hKv : M * 2 ^ E' = K at *
      rw [inI, e2]
      refine ⟨Or.inl ?_, Or.inl ⟨hwv.symm, by omega, ?_⟩⟩
      · have e : (2 * m + 1) * (2 * K) = 2 * ((q + 1) * K) + 2 * K := by rw [hq2, Nat.add_mul, Nat.mul_assoc, Nat.mul_assoc, Nat.one_mul]; rw [Nat.mul_left_comm m 2 K]
        omega
      · have e : (4 * m - 1) * (2 * K) = 2 * ((2 * q + 1) * K) := by
          have : 4 * m - 1 = 2 * q + 1 := by omega
          rw [this, Nat.mul_left_comm]
        rcases hup with hup | ⟨hup, -⟩ <;> omega
  · obtain ⟨rfl, rfl⟩ := cn_un (by omega) hc (by omega) h3 (hr2.trans (by omega) : E * w + m = E' * w + q)
    have c1 : ¬ (2 * m + 1) * (M * 2 ^ E) < 2 * P := fun z => hup (Or.inl z)
    have e1 : (2 * m - 1) * (M * 2 ^ E) + (M * 2 ^ E) = 2 * (m * (M * 2 ^ E)) := by
      have a1 : (2 * m - 1) * (M * 2 ^ E) + (M * 2 ^ E) = (2 * m - 1 + 1) * (M * 2 ^ E) := by rw [Nat.add_mul, Nat.one_mul]
      have a2 : 2 * m - 1 + 1 = 2 * m := by omega
      rw [a1, a2, Nat.mul_assoc]
    refine ⟨?_, ?_⟩
    · by_cases c2 : (2 * m + 1) * (M * 2 ^ E) = 2 * P
      · exact Or.inr ⟨c2.symm, by
          have : ¬ m % 2 = 1 := fun z => hup (Or.inr ⟨c2, Or.inr z⟩)
          omega⟩
      · exact Or.inl (by omega)
    · by_cases c3 : m = 2 ^ (sz - 1) ∧ 0 < E
      · refine Or.inl ⟨c3.1, c3.2, ?_⟩
        have e4 : (4 * m - 1) * (M * 2 ^ E) ≤ 4 * m * (M * 2 ^ E) := Nat.mul_le_mul_right _ (by omega)
        rw [Nat.mul_assoc] at e4
        omega
      · exact Or.inr ⟨c3, Or.inl (by omega)⟩
theorem rb_to {sz inf P M r E m : Nat} (hs : 2 ≤ sz) (hM : 0 < M) (h : NR sz inf P M False r) (hm : 0 < m) (hm2 : m < 2 ^ sz) (hc : 0 < E → 2 ^ (sz - 1) ≤ m) (hinf : E * 2 ^ (sz - 1) + m < inf) (hI : inI sz P M E m) : r = E * 2 ^ (sz - 1) + m := by
  have hw : 2 ^ sz = 2 * 2 ^ (sz - 1) := by rw [← Nat.pow_succ']; congr 1; omega
  have hw1 : 2 ^ (sz - 1) = 2 * 2 ^ (sz - 2) := by rw [← Nat.pow_succ']; congr 1; omega
  have hk := p2_pos (sz - 2)
  have hK : 0 < M * 2 ^ E := Nat.mul_pos hM (p2_pos _)
  have key : ∀ {E' q u : Nat}, nr sz P M E' q → ((u = 1 ∧ upP P M E' q False) ∨ (u = 0 ∧ ¬ upP P M E' q False)) → E' * 2 ^ (sz - 1) + q + u = E * 2 ^ (sz - 1) + m → r = E * 2 ^ (sz - 1) + m := by
    intro E' q u a1 a2 a3
    refine NR_un (by omega) h ⟨E', q, u, a1, a2, ?_⟩
    omega
  obtain ⟨hi, lo⟩ := hI
  have e0 : (2 * m + 1) * (M * 2 ^ E) = 2 * (m * (M * 2 ^ E)) + M * 2 ^ E := by rw [Nat.add_mul, Nat.mul_assoc]; omega
  have e1 : (m + 1) * (M * 2 ^ E) = m * (M * 2 ^ E) + M * 2 ^ E := by rw [Nat.add_mul]; omega
  rcases Nat.lt_or_ge P (m * (M * 2 ^ E)) with hlt | hge
  · rcases lo with ⟨l1, l2, l3⟩ | ⟨l1, l2⟩
    · obtain ⟨E1, rfl⟩ : ∃ E1, E = E1 + 1 := ⟨E - 1, by omega⟩
      have e2 : M * 2 ^ (E1 + 1) = 2 * (M * 2 ^ E1) := by rw [Nat.pow_succ, ← Nat.mul_assoc]; omega
      have hK1 : 0 < M * 2 ^ E1 := Nat.mul_pos hM (p2_pos _)
      rw [e2] at hlt l3
      have a1 : (2 ^ sz - 1) * (M * 2 ^ E1) + M * 2 ^ E1 = m * (2 * (M * 2 ^ E1)) := by
        have : (2 ^ sz - 1) * (M * 2 ^ E1) + M * 2 ^ E1 = (2 ^ sz - 1 + 1) * (M * 2 ^ E1) := by rw [Nat.add_mul, Nat.one_mul]
        rw [this]
        have : 2 ^ sz - 1 + 1 = m * 2 := by omega
        rw [this, Nat.mul_assoc]
      have a2 : (4 * m - 1) * (2 * (M * 2 ^ E1)) = 2 * ((2 * (2 ^ sz - 1) + 1) * (M * 2 ^ E1)) := by
        have : 4 * m - 1 = 2 * (2 ^ sz - 1) + 1 := by omega
        rw [this, Nat.mul_left_comm]
      have a3 : (2 * (2 ^ sz - 1) + 1) * (M * 2 ^ E1) = 2 * ((2 ^ sz - 1) * (M * 2 ^ E1)) + M * 2 ^ E1 := by rw [Nat.add_mul, Nat.mul_assoc]; omega
      have a4 : (2 ^ sz - 1 + 1) * (M * 2 ^ E1) = (2 ^ sz - 1) * (M * 2 ^ E1) + M * 2 ^ E1 := by rw [Nat.add_mul]; omega
      refine key (E' := E1) (q := 2 ^ sz - 1) (u := 1) ⟨dv_eq (by omega) (by omega), by omega, fun _ => by omega⟩ (Or.inl ⟨rfl, ?_⟩) ?_
      · rcases Nat.lt_or_ge ((2 * (2 ^ sz - 1) + 1) * (M * 2 ^ E1)) (2 * P) with z | z
        · exact Or.inl z
        · exact Or.inr ⟨by omega, Or.inr (by omega)⟩
      · rw [Nat.add_mul]; omega
    · obtain ⟨k, rfl⟩ : ∃ k, m = k + 1 := ⟨m - 1, by omega⟩
      have e3 : 2 * (k + 1) - 1 = 2 * k + 1 := by omega
      rw [e3] at l2
      have e4 : (2 * k + 1) * (M * 2 ^ E) = 2 * (k * (M * 2 ^ E)) + M * 2 ^ E := by rw [Nat.add_mul, Nat.mul_assoc]; omega
      have e5 : (k + 1) * (M * 2 ^ E) = k * (M * 2 ^ E) + M * 2 ^ E := by rw [Nat.add_mul]; omega
      refine key (E' := E) (q := k) (u := 1) ⟨dv_eq (by omega) (by omega), by omega, fun z => by have := hc z; omega⟩ (Or.inl ⟨rfl, ?_⟩) (by omega)
      rcases l2 with z | ⟨z, z2⟩
      · exact Or.inl z
      · exact Or.inr ⟨z, Or.inr (by omega)⟩
  · refine key (E' := E) (q := m) (u := 0) ⟨dv_eq hge (by omega), hm2, hc⟩ (Or.inr ⟨rfl, ?_⟩) (by omega)
    rintro (z | ⟨z, z2 | z2⟩)
    · rcases hi with y | ⟨y, -⟩ <;> omega
    · exact z2
    · rcases hi with y | ⟨y, y2⟩ <;> omega
/-! where it is made: by a head and what lies below it -/
theorem dv_cross {a b c d : Nat} (hb : 0 < b) (hd : 0 < d) (h : a * d = c * b) : a / b = c / d := by
  have h1 : a / b = a * d / (b * d) := by rw [Nat.mul_div_mul_right _ _ hd]
  have h2 : c / d = c * b / (d * b) := by rw [Nat.mul_div_mul_right _ _ hb]
  rw [h1, h2, h, Nat.mul_comm b d]
theorem lt_cross {a b c d x : Nat} (hb : 0 < b) (hd : 0 < d) (h : a * d = c * b) : x * b < 2 * a ↔ x * d < 2 * c := by
  rw [← Nat.mul_lt_mul_right hd, ← Nat.mul_lt_mul_right (a := b) (b := x * d) hb]
  have e1 : x * b * d = x * d * b := Nat.mul_right_comm _ _ _
  have e2 : 2 * a * d = 2 * c * b := by rw [Nat.mul_assoc, h, Nat.mul_assoc]
  rw [e1, e2]
theorem eq_cross {a b c d x : Nat} (hb : 0 < b) (hd : 0 < d) (h : a * d = c * b) : x * b = 2 * a ↔ x * d = 2 * c := by
  have e1 : x * b * d = x * d * b := Nat.mul_right_comm _ _ _
  have e2 : 2 * a * d = 2 * c * b := by rw [Nat.mul_assoc, h, Nat.mul_assoc]
  constructor
  · intro z
    apply Nat.eq_of_mul_eq_mul_right hb
    rw [← e1, z, e2]
  · intro z
    apply Nat.eq_of_mul_eq_mul_right hd
    rw [e1, z, e2]
/-- the half of what was dropped, by the head alone and whether something lies below it -/
theorem hd_half {num t head rem q k half : Nat} (ht : 0 < t) (hn : num = head * t + rem) (hr : rem < t) (hk : k = 2 * half) (hq : q * k ≤ head) :
    ((2 * q + 1) * (t * k) < 2 * num ↔ (half < head - q * k ∨ (half = head - q * k ∧ 0 < rem))) ∧ ((2 * q + 1) * (t * k) = 2 * num ↔ (half = head - q * k ∧ rem = 0)) := by
  obtain ⟨dr, rfl⟩ : ∃ dr, head = q * k + dr := ⟨head - q * k, by omega⟩
  have e0 : q * k + dr - q * k = dr := by omega
  rw [e0]
  have e1 : (2 * q + 1) * (t * k) = 2 * (q * k * t) + 2 * (half * t) := by
    subst hk
    rw [Nat.add_mul, Nat.one_mul]
    have a1 : 2 * q * (t * (2 * half)) = 2 * (q * (2 * half) * t) := by
      rw [Nat.mul_assoc 2 q, Nat.mul_assoc q, Nat.mul_comm t]
    have a2 : t * (2 * half) = 2 * (half * t) := by rw [Nat.mul_left_comm, Nat.mul_comm t]
    omega
  have e2 : 2 * num = 2 * (q * k * t) + 2 * (dr * t) + 2 * rem := by
    rw [hn, Nat.add_mul]; omega
  rw [e1, e2]
  rcases Nat.lt_trichotomy half dr with h | h | h
  · have a : (half + 1) * t ≤ dr * t := Nat.mul_le_mul_right _ h
    rw [Nat.add_mul, Nat.one_mul] at a
    constructor
    · constructor
      · intro _; exact Or.inl h
      · intro _; omega
    · constructor
      · intro z; omega
      · intro ⟨z, _⟩; omega
  · subst h
    constructor
    · constructor
      · intro z; exact Or.inr ⟨rfl, by omega⟩
      · intro z; rcases z with z | ⟨_, z⟩ <;> omega
    · constructor
      · intro z; exact ⟨rfl, by omega⟩
      · intro ⟨_, z⟩; omega
  · have a : (dr + 1) * t ≤ half * t := Nat.mul_le_mul_right _ h
    rw [Nat.add_mul, Nat.one_mul] at a
    constructor
    · constructor
      · intro z; omega
      · intro z; rcases z with z | ⟨z, _⟩ <;> omega
    · constructor
      · intro z; omega
      · intro ⟨z, _⟩; omega
/-- there is always such an answer -/
theorem nr_ex (sz P M : Nat) (hs : 0 < sz) : ∃ E q, nr sz P M E q ∧ E = bl (P / M) - sz := by
  refine ⟨bl (P / M) - sz, P / M / 2 ^ (bl (P / M) - sz), ⟨by rw [Nat.div_div_eq_div_mul], ?_, fun h => ?_⟩, rfl⟩
  · rw [Nat.div_lt_iff_lt_mul (p2_pos _), ← Nat.pow_add]
    exact Nat.lt_of_lt_of_le (bl_lt _) (Nat.pow_le_pow_right (by decide) (by omega))
  · rw [Nat.le_div_iff_mul_le (p2_pos _), ← Nat.pow_add]
    have hp : 0 < P / M := by
      rcases Nat.eq_zero_or_pos (P / M) with z | z
      · rw [z, bl_0] at h; omega
      · exact z
    have := bl_le hp
    have e : sz - 1 + (bl (P / M) - sz) = bl (P / M) - 1 := by omega
    rw [e]; exact this
theorem NR_head {sz inf P M num t head rem drop E q u half : Nat} {b : Prop} (hM : 0 < M) (ht : 0 < t) (hn : num = head * t + rem) (hr : rem < t) (hx : P * (t * 2 ^ drop) = num * (M * 2 ^ E)) (hd : 2 ^ drop = 2 * half) (hq : q = head / 2 ^ drop)
    (h1 : q < 2 ^ sz) (h2 : 0 < E → 2 ^ (sz - 1) ≤ q)
    (hu : (u = 1 ∧ (half < head - q * 2 ^ drop ∨ (half = head - q * 2 ^ drop ∧ ((b ∨ 0 < rem) ∨ q % 2 = 1)))) ∨ (u = 0 ∧ ¬ (half < head - q * 2 ^ drop ∨ (half = head - q * 2 ^ drop ∧ ((b ∨ 0 < rem) ∨ q % 2 = 1))))) :
    NR sz inf P M b (min inf (E * 2 ^ (sz - 1) + q + u)) := by
  have hB : 0 < M * 2 ^ E := Nat.mul_pos hM (p2_pos _)
  have hT : 0 < t * 2 ^ drop := Nat.mul_pos ht (p2_pos _)
  have hle : q * 2 ^ drop ≤ head := by rw [hq]; exact Nat.div_mul_le_self _ _
  obtain ⟨f1, f2⟩ := hd_half ht hn hr hd hle
  have c1 := lt_cross (x := 2 * q + 1) hB hT hx
  have c2 := eq_cross (x := 2 * q + 1) hB hT hx
  refine ⟨E, q, u, ⟨?_, h1, h2⟩, ?_, rfl⟩
  · have e1 : num / t = head := by rw [hn, Nat.mul_comm head, Nat.mul_add_div ht, Nat.div_eq_of_lt hr, Nat.add_zero]
    rw [dv_cross hB hT hx, ← Nat.div_div_eq_div_mul, e1]
    exact hq
  · rcases hu with ⟨rfl, hu⟩ | ⟨rfl, hu⟩
    · refine Or.inl ⟨rfl, ?_⟩
      unfold upP
      rw [c1, c2, f1, f2]
      rcases hu with z | ⟨z, (zb | zr) | zo⟩
      · exact Or.inl (Or.inl z)
      · rcases Nat.eq_zero_or_pos rem with y | y
        · exact Or.inr ⟨⟨z, y⟩, Or.inl zb⟩
        · exact Or.inl (Or.inr ⟨z, y⟩)
      · exact Or.inl (Or.inr ⟨z, zr⟩)
      · rcases Nat.eq_zero_or_pos rem with y | y
        · exact Or.inr ⟨⟨z, y⟩, Or.inr zo⟩
        · exact Or.inl (Or.inr ⟨z, y⟩)
    · refine Or.inr ⟨rfl, fun z => hu ?_⟩
      unfold upP at z
      rw [c1, c2, f1, f2] at z
      rcases z with (z | ⟨z, y⟩) | ⟨⟨z, y⟩, w⟩
      · exact Or.inl z
      · exact Or.inr ⟨z, Or.inl (Or.inr y)⟩
      · rcases w with w | w
        · exact Or.inr ⟨z, Or.inl (Or.inl w)⟩
        · exact Or.inr ⟨z, Or.inr w⟩
theorem NR_small {sz inf P M : Nat} {b : Prop} (h : 2 * P < M) : NR sz inf P M b 0 := by
  refine ⟨0, 0, 0, ⟨?_, p2_pos _, fun z => by omega⟩, Or.inr ⟨rfl, ?_⟩, by simp⟩
  · rw [Nat.pow_zero, Nat.mul_one, Nat.div_eq_of_lt (by omega)]
  · unfold upP
    rw [Nat.pow_zero, Nat.mul_one]
    rintro (z | ⟨z, -⟩) <;> omega
theorem NR_large {sz inf P M j : Nat} {b : Prop} (hs : 0 < sz) (hj : 0 < j) (h : inf = (j + 1) * 2 ^ (sz - 1)) (hb : sz + j ≤ bl (P / M)) : NR sz inf P M b inf := by
  obtain ⟨E, q, h1, h2⟩ := nr_ex sz P M hs
  have h3 : j ≤ E := by omega
  have h4 := h1.2.2 (by omega)
  have h5 : j * 2 ^ (sz - 1) ≤ E * 2 ^ (sz - 1) := Nat.mul_le_mul_right _ h3
  rw [Nat.add_mul] at h
  by_cases hu : upP P M E q b
  · exact ⟨E, q, 1, h1, Or.inl ⟨rfl, hu⟩, by omega⟩
  · exact ⟨E, q, 0, h1, Or.inr ⟨rfl, hu⟩, by omega⟩
end
section
/-! Contracts of this proof: av the arguments, ws the cells, Ex what else is known of the start; the post speaks of the answer and of the cells behind -/
def c_P (Ex : (Nat → Prop) → State → Prop) (D : va_G) (cl : List vw_C) (tys : List (ClassId × FieldType)) (av : List Value) (ws : va_W) (sz : Nat) : Array Value → State → Prop :=
  va_Pc av (fun U => U.heap.size = sz ∧ va_P D cl ws U.heap ∧ va_K D cl tys U ∧ va_D (fun _ => True) ws ∧ Ex (va_A ws sz) U)
def c_B (D : va_G) (cl : List vw_C) (A : Nat → Prop) (u : va_W) (t : State) : Prop := va_P D cl u t.heap ∧ va_D A u
/-- what Ex must stand: another state with the same heap and tables alike; fewer cells that may change -/
def c_X (Ex : (Nat → Prop) → State → Prop) : Prop := ∀ (A B : Nat → Prop) (u U : State), u.vm.Alike U.vm → (∀ a : Nat, a < u.heap.size → ¬ A a → U.heap[a]? = u.heap[a]?) → (∀ q, B q → A q) → Ex A u → Ex B U
def c_I (l : Launch) (y : MethodName) (wd : List Cond) (rm : Room) (Ex : (Nat → Prop) → State → Prop) (D : va_G) (cl : List vw_C) (tys : List (ClassId × FieldType)) (av : List Value) (ws : va_W) (post : Int32 → va_W → Prop) (mc ms : Nat) : Prop :=
  ∀ sz : Nat, Met l y wd rm (c_P Ex D cl tys av ws sz) (va_Qi post (c_B D cl (va_A ws sz)) (va_A ws sz)) mc ms (va_A ws sz)
def c_L (l : Launch) (y : MethodName) (wd : List Cond) (rm : Room) (Ex : (Nat → Prop) → State → Prop) (D : va_G) (cl : List vw_C) (tys : List (ClassId × FieldType)) (av : List Value) (ws : va_W) (post : Int64 → va_W → Prop) (mc ms : Nat) : Prop :=
  ∀ sz : Nat, Met l y wd rm (c_P Ex D cl tys av ws sz) (va_Ql post (c_B D cl (va_A ws sz)) (va_A ws sz)) mc ms (va_A ws sz)
def c_V (l : Launch) (y : MethodName) (wd : List Cond) (rm : Room) (Ex : (Nat → Prop) → State → Prop) (D : va_G) (cl : List vw_C) (tys : List (ClassId × FieldType)) (av : List Value) (ws : va_W) (post : va_W → Prop) (mc ms : Nat) : Prop :=
  ∀ sz : Nat, Met l y wd rm (c_P Ex D cl tys av ws sz) (va_Qv post (c_B D cl (va_A ws sz)) (va_A ws sz)) mc ms (va_A ws sz)
section EdCalls
variable {p : Program} {l : Launch} {e : Env} {R : Room} {s : State} {m : MethodId} {args : Array Value} {below : List Frame} {meth : Method} {c : Code} {H : Heap} {locs : List Loc} {cells slots : Nat} {Q : State → Prop} {cc bytes : ByteArray} {pc : Nat} {ls : Array Slot} {rest st0 As : List Value} {a : Array Value} {A0 : Nat → Prop} {H0 : Heap} {mc ms n nL maxL index : Nat} {D : va_G} {cl : List vw_C} {tys : List (ClassId × FieldType)} {ws wc wr : va_W} {Ex : (Nat → Prop) → State → Prop} {y : MethodName} {wd Ts : List Cond} {rm : Room} {own C host : String} {b : Nat} {ret : Option FieldType}
theorem c_blind {av : List Value} {sz : Nat} (hX : c_X Ex) : FrameBlind (c_P Ex D cl tys av ws sz) := fun a U g mk h => by
  obtain ⟨h0, h1, h2, h3, h4, h5⟩ := h
  exact ⟨h0, h1, h2, va_K.moved (u := U) (U := U.calling g mk a) (Vm.Alike.refl U.vm) h3, h4, hX _ _ U (U.calling g mk a) (Vm.Alike.refl U.vm) (fun _ _ _ => rfl) (fun _ h => h) h5⟩
/-- the callee's start, out of the caller's world -/
theorem c_pre {av : List Value} (hX : c_X Ex) (hE : Ex A0 s) (hK : va_K D cl tys s) (hP : va_P D cl ws H) (hD : va_D A0 ws) (hS : va_S A0 s.heap H locs) (hA : ∀ q, s.heap.size ≤ q → A0 q)
    (isC : List Nat) (hC : isC.map (fun i => ws[i]?) = wc.map some) (hn1 : va_nd isC = true) (U : State) (hU : U.heap = H) (hW : s.WarmedH U.vm) : c_P Ex D cl tys av wc H.size av.toArray U := by
  have hF := va_free (wc := wc) hD hS hA isC hC
  refine ⟨rfl, by rw [hU], ?_, va_K.moved hW.alike hK, (hD.sub isC hn1 hC).weaken (fun _ _ _ _ => trivial), hX A0 _ s U hW.alike (fun a h1 h2 => by rw [hU]; exact hS.2.1 a h1 h2) hF hE⟩
  rw [hU]
  intro k q hq
  have h1 : (isC.map (fun i => ws[i]?))[k]? = some (some q) := by rw [hC, List.getElem?_map, hq]; rfl
  rw [List.getElem?_map] at h1
  cases hk : isC[k]? with
  | none => rw [hk] at h1; cases h1
  | some i => rw [hk] at h1; exact hP i q (Option.some.inj h1)
theorem c_fi {post : Int32 → va_W → Prop} (hr : va_Run p l e R s m args below meth c H locs cells slots mc ms (F0 m pc ls st0) rest (va_Qi post (c_B D cl (va_A wc H.size)) (va_A wc H.size) a) (va_A wc H.size))
    (hP : va_P D cl ws H) (hD : va_D A0 ws) (hS : va_S A0 H0 H locs) (hA : ∀ q, H0.size ≤ q → A0 q) (isC isR : List Nat) (hC : isC.map (fun i => ws[i]?) = wc.map some) (hR : isR.map (fun i => ws[i]?) = wr.map some) (hn2 : va_nd isR = true) (hdis : ∀ i ∈ isR, i ∉ isC)
    (kk : ∀ (r : Int32) (u : va_W) (H1 : Heap) (locs1 : List Loc), post r u → va_P D cl (wr ++ u) H1 → va_D A0 (wr ++ u) → va_S A0 H0 H1 locs1 → W p l e R s m args below meth c H1 locs1 (cells + mc) (slots + ms) Q (F0 m (pc + 3) ls (.int r :: rest))) : W p l e R s m args below meth c H locs cells slots Q (F0 m pc ls st0) := by
  have hF := va_free (wc := wc) hD hS hA isC hC
  refine va_calli hr hS (fun q _ h => hF q h) hF (fun r u t H1 locs1 ht hvm hp hB hz hk hS1 => ?_)
  obtain ⟨hP1, hD1⟩ := hB
  rw [ht] at hP1
  obtain ⟨hP2, hD2⟩ := va_join hP hD isC isR hC hR hn2 hdis hk hF hP1 hD1
  exact kk r u H1 locs1 hp hP2 hD2 hS1
theorem c_fl {post : Int64 → va_W → Prop} (hr : va_Run p l e R s m args below meth c H locs cells slots mc ms (F0 m pc ls st0) rest (va_Ql post (c_B D cl (va_A wc H.size)) (va_A wc H.size) a) (va_A wc H.size))
    (hP : va_P D cl ws H) (hD : va_D A0 ws) (hS : va_S A0 H0 H locs) (hA : ∀ q, H0.size ≤ q → A0 q) (isC isR : List Nat) (hC : isC.map (fun i => ws[i]?) = wc.map some) (hR : isR.map (fun i => ws[i]?) = wr.map some) (hn2 : va_nd isR = true) (hdis : ∀ i ∈ isR, i ∉ isC)
    (kk : ∀ (r : Int64) (u : va_W) (H1 : Heap) (locs1 : List Loc), post r u → va_P D cl (wr ++ u) H1 → va_D A0 (wr ++ u) → va_S A0 H0 H1 locs1 → W p l e R s m args below meth c H1 locs1 (cells + mc) (slots + ms) Q (F0 m (pc + 3) ls (.long r :: rest))) : W p l e R s m args below meth c H locs cells slots Q (F0 m pc ls st0) := by
  have hF := va_free (wc := wc) hD hS hA isC hC
  refine va_calll hr hS (fun q _ h => hF q h) hF (fun r u t H1 locs1 ht hvm hp hB hz hk hS1 => ?_)
  obtain ⟨hP1, hD1⟩ := hB
  rw [ht] at hP1
  obtain ⟨hP2, hD2⟩ := va_join hP hD isC isR hC hR hn2 hdis hk hF hP1 hD1
  exact kk r u H1 locs1 hp hP2 hD2 hS1
theorem c_fv {post : va_W → Prop} (hr : va_Run p l e R s m args below meth c H locs cells slots mc ms (F0 m pc ls st0) rest (va_Qv post (c_B D cl (va_A wc H.size)) (va_A wc H.size) a) (va_A wc H.size))
    (hP : va_P D cl ws H) (hD : va_D A0 ws) (hS : va_S A0 H0 H locs) (hA : ∀ q, H0.size ≤ q → A0 q) (isC isR : List Nat) (hC : isC.map (fun i => ws[i]?) = wc.map some) (hR : isR.map (fun i => ws[i]?) = wr.map some) (hn2 : va_nd isR = true) (hdis : ∀ i ∈ isR, i ∉ isC)
    (kk : ∀ (u : va_W) (H1 : Heap) (locs1 : List Loc), post u → va_P D cl (wr ++ u) H1 → va_D A0 (wr ++ u) → va_S A0 H0 H1 locs1 → W p l e R s m args below meth c H1 locs1 (cells + mc) (slots + ms) Q (F0 m (pc + 3) ls rest)) : W p l e R s m args below meth c H locs cells slots Q (F0 m pc ls st0) := by
  have hF := va_free (wc := wc) hD hS hA isC hC
  refine va_callv hr hS (fun q _ h => hF q h) hF (fun u t H1 locs1 ht hvm hp hB hz hk hS1 => ?_)
  obtain ⟨hP1, hD1⟩ := hB
  rw [ht] at hP1
  obtain ⟨hP2, hD2⟩ := va_join hP hD isC isR hC hR hn2 hdis hk hF hP1 hD1
  exact kk u H1 locs1 hp hP2 hD2 hS1
end EdCalls
end
section
-- ===== PART A: goes FIRST, ahead of the names: the tables' words, and 'selects' of the private methods out of them =====
/-- a private method of a class that the tables say can be made, by its rows of tables_1 -/
def lw_okq (q : MethodName × Nat) : Prop := (q.1.cls ≠ "java/lang/invoke/MethodHandle" ∧ q.1.cls ≠ "java/lang/invoke/VarHandle") ∧ Cond.instantiable q.1.cls q.2 ∈ tables_1 ∧ Cond.privateMethod q.1 ∈ tables_1 ∧ Cond.instanceMethod q.1 ∈ tables_1
theorem lw_p0 : lw_okq (⟨"ExactDigits", "giveScratch", "(I)V"⟩, 5) := ⟨⟨by decide +kernel, by decide +kernel⟩, List.mem_of_getElem? (i := 18) (by decide +kernel), List.mem_of_getElem? (i := 67) (by decide +kernel), List.mem_of_getElem? (i := 68) (by decide +kernel)⟩
theorem lw_p1 : lw_okq (⟨"ExactDigits", "dropZerosBehind", "()V"⟩, 5) := ⟨⟨by decide +kernel, by decide +kernel⟩, List.mem_of_getElem? (i := 18) (by decide +kernel), List.mem_of_getElem? (i := 88) (by decide +kernel), List.mem_of_getElem? (i := 89) (by decide +kernel)⟩
theorem lw_p2 : lw_okq (⟨"ExactDigits", "nearestToScratch", "(IZLExactDigits$Format;)J"⟩, 5) := ⟨⟨by decide +kernel, by decide +kernel⟩, List.mem_of_getElem? (i := 18) (by decide +kernel), List.mem_of_getElem? (i := 111) (by decide +kernel), List.mem_of_getElem? (i := 112) (by decide +kernel)⟩
theorem lw_p3 : lw_okq (⟨"ExactDigits$Natural", "times", "(I)V"⟩, 2) := ⟨⟨by decide +kernel, by decide +kernel⟩, List.mem_of_getElem? (i := 26) (by decide +kernel), List.mem_of_getElem? (i := 123) (by decide +kernel), List.mem_of_getElem? (i := 124) (by decide +kernel)⟩
theorem lw_p4 : lw_okq (⟨"ExactDigits$Natural", "digitAt", "(I)I"⟩, 2) := ⟨⟨by decide +kernel, by decide +kernel⟩, List.mem_of_getElem? (i := 26) (by decide +kernel), List.mem_of_getElem? (i := 134) (by decide +kernel), List.mem_of_getElem? (i := 135) (by decide +kernel)⟩
theorem lw_p5 : lw_okq (⟨"java/lang/Throwable", "fillInStackTrace", "(I)Ljava/lang/Throwable;"⟩, 6) := ⟨⟨by decide +kernel, by decide +kernel⟩, List.mem_of_getElem? (i := 208) (by decide +kernel), List.mem_of_getElem? (i := 206) (by decide +kernel), List.mem_of_getElem? (i := 207) (by decide +kernel)⟩
theorem lw_p6 : lw_okq (⟨"ExactDigits", "giveExact", "(JLExactDigits$Format;)V"⟩, 5) := ⟨⟨by decide +kernel, by decide +kernel⟩, List.mem_of_getElem? (i := 18) (by decide +kernel), List.mem_of_getElem? (i := 233) (by decide +kernel), List.mem_of_getElem? (i := 234) (by decide +kernel)⟩
theorem lw_p7 : lw_okq (⟨"ExactDigits", "shorten", "(JLExactDigits$Format;)V"⟩, 5) := ⟨⟨by decide +kernel, by decide +kernel⟩, List.mem_of_getElem? (i := 18) (by decide +kernel), List.mem_of_getElem? (i := 252) (by decide +kernel), List.mem_of_getElem? (i := 253) (by decide +kernel)⟩
theorem lw_p8 : lw_okq (⟨"ExactDigits", "neighbourReadBack", "(IJLExactDigits$Format;)J"⟩, 5) := ⟨⟨by decide +kernel, by decide +kernel⟩, List.mem_of_getElem? (i := 18) (by decide +kernel), List.mem_of_getElem? (i := 256) (by decide +kernel), List.mem_of_getElem? (i := 257) (by decide +kernel)⟩
theorem lw_p9 : lw_okq (⟨"ExactDigits", "firstDigits", "(I)J"⟩, 5) := ⟨⟨by decide +kernel, by decide +kernel⟩, List.mem_of_getElem? (i := 18) (by decide +kernel), List.mem_of_getElem? (i := 260) (by decide +kernel), List.mem_of_getElem? (i := 261) (by decide +kernel)⟩
theorem lw_p10 : lw_okq (⟨"ExactDigits", "isNearerAbove", "(IJ)Z"⟩, 5) := ⟨⟨by decide +kernel, by decide +kernel⟩, List.mem_of_getElem? (i := 18) (by decide +kernel), List.mem_of_getElem? (i := 265) (by decide +kernel), List.mem_of_getElem? (i := 266) (by decide +kernel)⟩
theorem lw_p11 : lw_okq (⟨"ExactDigits", "readsBack", "(JIJLExactDigits$Format;)Z"⟩, 5) := ⟨⟨by decide +kernel, by decide +kernel⟩, List.mem_of_getElem? (i := 18) (by decide +kernel), List.mem_of_getElem? (i := 269) (by decide +kernel), List.mem_of_getElem? (i := 270) (by decide +kernel)⟩
theorem lw_p12 : lw_okq (⟨"ExactDigits", "append", "(III)V"⟩, 5) := ⟨⟨by decide +kernel, by decide +kernel⟩, List.mem_of_getElem? (i := 18) (by decide +kernel), List.mem_of_getElem? (i := 300) (by decide +kernel), List.mem_of_getElem? (i := 301) (by decide +kernel)⟩
theorem lw_p13 : lw_okq (⟨"ExactDigits", "keepFirstAndOneMore", "(I)V"⟩, 5) := ⟨⟨by decide +kernel, by decide +kernel⟩, List.mem_of_getElem? (i := 18) (by decide +kernel), List.mem_of_getElem? (i := 325) (by decide +kernel), List.mem_of_getElem? (i := 326) (by decide +kernel)⟩
theorem lw_p14 : lw_okq (⟨"ExactDigits", "keepFirst", "(I)V"⟩, 5) := ⟨⟨by decide +kernel, by decide +kernel⟩, List.mem_of_getElem? (i := 18) (by decide +kernel), List.mem_of_getElem? (i := 329) (by decide +kernel), List.mem_of_getElem? (i := 330) (by decide +kernel)⟩
theorem lw_p15 : lw_okq (⟨"ExactDigitsModel", "isNumber", "(JZ)Z"⟩, 10) := ⟨⟨by decide +kernel, by decide +kernel⟩, List.mem_of_getElem? (i := 348) (by decide +kernel), List.mem_of_getElem? (i := 450) (by decide +kernel), List.mem_of_getElem? (i := 451) (by decide +kernel)⟩
def lw_privs_1 : List (MethodName × Nat) := [(⟨"ExactDigits", "giveScratch", "(I)V"⟩, 5), (⟨"ExactDigits", "dropZerosBehind", "()V"⟩, 5), (⟨"ExactDigits", "nearestToScratch", "(IZLExactDigits$Format;)J"⟩, 5), (⟨"ExactDigits$Natural", "times", "(I)V"⟩, 2), (⟨"ExactDigits$Natural", "digitAt", "(I)I"⟩, 2), (⟨"java/lang/Throwable", "fillInStackTrace", "(I)Ljava/lang/Throwable;"⟩, 6), (⟨"ExactDigits", "giveExact", "(JLExactDigits$Format;)V"⟩, 5), (⟨"ExactDigits", "shorten", "(JLExactDigits$Format;)V"⟩, 5), (⟨"ExactDigits", "neighbourReadBack", "(IJLExactDigits$Format;)J"⟩, 5), (⟨"ExactDigits", "firstDigits", "(I)J"⟩, 5), (⟨"ExactDigits", "isNearerAbove", "(IJ)Z"⟩, 5), (⟨"ExactDigits", "readsBack", "(JIJLExactDigits$Format;)Z"⟩, 5), (⟨"ExactDigits", "append", "(III)V"⟩, 5), (⟨"ExactDigits", "keepFirstAndOneMore", "(I)V"⟩, 5), (⟨"ExactDigits", "keepFirst", "(I)V"⟩, 5), (⟨"ExactDigitsModel", "isNumber", "(JZ)Z"⟩, 10)]
theorem lw_r1 : ∀ q ∈ lw_privs_1, lw_okq q := List.forall_mem_cons.mpr ⟨lw_p0, List.forall_mem_cons.mpr ⟨lw_p1, List.forall_mem_cons.mpr ⟨lw_p2, List.forall_mem_cons.mpr ⟨lw_p3, List.forall_mem_cons.mpr ⟨lw_p4, List.forall_mem_cons.mpr ⟨lw_p5, List.forall_mem_cons.mpr ⟨lw_p6, List.forall_mem_cons.mpr ⟨lw_p7, List.forall_mem_cons.mpr ⟨lw_p8, List.forall_mem_cons.mpr ⟨lw_p9, List.forall_mem_cons.mpr ⟨lw_p10, List.forall_mem_cons.mpr ⟨lw_p11, List.forall_mem_cons.mpr ⟨lw_p12, List.forall_mem_cons.mpr ⟨lw_p13, List.forall_mem_cons.mpr ⟨lw_p14, List.forall_mem_cons.mpr ⟨lw_p15, fun _ h => absurd h List.not_mem_nil⟩⟩⟩⟩⟩⟩⟩⟩⟩⟩⟩⟩⟩⟩⟩⟩
theorem lw_p16 : lw_okq (⟨"ExactDigitsModel", "first", "(IZ)V"⟩, 10) := ⟨⟨by decide +kernel, by decide +kernel⟩, List.mem_of_getElem? (i := 348) (by decide +kernel), List.mem_of_getElem? (i := 473) (by decide +kernel), List.mem_of_getElem? (i := 474) (by decide +kernel)⟩
theorem lw_p17 : lw_okq (⟨"ExactDigitsModel", "isIn", "(Z)Z"⟩, 10) := ⟨⟨by decide +kernel, by decide +kernel⟩, List.mem_of_getElem? (i := 348) (by decide +kernel), List.mem_of_getElem? (i := 482) (by decide +kernel), List.mem_of_getElem? (i := 483) (by decide +kernel)⟩
theorem lw_p18 : lw_okq (⟨"ExactDigitsModel", "kept", "()I"⟩, 10) := ⟨⟨by decide +kernel, by decide +kernel⟩, List.mem_of_getElem? (i := 348) (by decide +kernel), List.mem_of_getElem? (i := 504) (by decide +kernel), List.mem_of_getElem? (i := 505) (by decide +kernel)⟩
theorem lw_p19 : lw_okq (⟨"ExactDigitsModel", "ended", "(IZ)I"⟩, 10) := ⟨⟨by decide +kernel, by decide +kernel⟩, List.mem_of_getElem? (i := 348) (by decide +kernel), List.mem_of_getElem? (i := 516) (by decide +kernel), List.mem_of_getElem? (i := 517) (by decide +kernel)⟩
theorem lw_p20 : lw_okq (⟨"ExactDigitsModel", "bits", "()I"⟩, 10) := ⟨⟨by decide +kernel, by decide +kernel⟩, List.mem_of_getElem? (i := 348) (by decide +kernel), List.mem_of_getElem? (i := 548) (by decide +kernel), List.mem_of_getElem? (i := 549) (by decide +kernel)⟩
theorem lw_p21 : lw_okq (⟨"ExactDigitsModel", "ones", "()J"⟩, 10) := ⟨⟨by decide +kernel, by decide +kernel⟩, List.mem_of_getElem? (i := 348) (by decide +kernel), List.mem_of_getElem? (i := 552) (by decide +kernel), List.mem_of_getElem? (i := 553) (by decide +kernel)⟩
def lw_privs_2 : List (MethodName × Nat) := [(⟨"ExactDigitsModel", "first", "(IZ)V"⟩, 10), (⟨"ExactDigitsModel", "isIn", "(Z)Z"⟩, 10), (⟨"ExactDigitsModel", "kept", "()I"⟩, 10), (⟨"ExactDigitsModel", "ended", "(IZ)I"⟩, 10), (⟨"ExactDigitsModel", "bits", "()I"⟩, 10), (⟨"ExactDigitsModel", "ones", "()J"⟩, 10)]
theorem lw_r2 : ∀ q ∈ lw_privs_2, lw_okq q := List.forall_mem_cons.mpr ⟨lw_p16, List.forall_mem_cons.mpr ⟨lw_p17, List.forall_mem_cons.mpr ⟨lw_p18, List.forall_mem_cons.mpr ⟨lw_p19, List.forall_mem_cons.mpr ⟨lw_p20, List.forall_mem_cons.mpr ⟨lw_p21, fun _ h => absurd h List.not_mem_nil⟩⟩⟩⟩⟩⟩
def lw_privs : List (MethodName × Nat) := lw_privs_1 ++ (lw_privs_2)
def lw_tbl : List Cond := k2_sels lw_privs ++ tables_1
theorem lw_privs_ok : ∀ q ∈ lw_privs, lw_okq q := by
  show ∀ q ∈ lw_privs_1 ++ (lw_privs_2), lw_okq q
  exact List.forall_mem_append.mpr ⟨lw_r1, lw_r2⟩
end
section
/-! names: classes, fields, code, words of the tables; by program (wip/whole/gen.py) -/
def R_Fo : String := "ExactDigits$Format"
def R_Na : String := "ExactDigits$Natural"
def R_Ed : String := "ExactDigits"
def R_De : String := "ExactDigitsModel$Decimal"
def R_Ro : String := "ExactDigitsModel$Row"
def R_Mo : String := "ExactDigitsModel"
def R_La : String := "ExactDigitsLaw"
def R_Ma : String := "java/lang/Math"
def R_In : String := "java/lang/Integer"
def R_Lo : String := "java/lang/Long"
def R_Sy : String := "java/lang/System"
def R_Ob : String := "java/lang/Object"
def R_Th : String := "java/lang/Throwable"
def R_En : String := "java/lang/Enum"
def R_Re : String := "java/lang/RuntimeException"
def R_Ex : String := "java/lang/Exception"
def R_Ae : String := "java/lang/ArithmeticException"
def R_Ia : String := "java/lang/IllegalArgumentException"
def T_Na : u_T := fun k => match k with
  | 0 => ("ExactDigits$Natural", "parts", "[I", true)
  | _ => ("ExactDigits$Natural", "size", "I", false)
def y_Na : Nat → FieldType := fun k => match k with
  | 0 => .array .int
  | _ => .int
theorem n_Na : ∀ a, a < 2 → ∀ b, b < 2 → a ≠ b → (T_Na a).2.1 ≠ (T_Na b).2.1 := by decide +kernel
theorem t_Na : ∀ k, k < 2 → parseFieldDescriptor (T_Na k).2.2.1 = some (y_Na k) := by decide +kernel
def T_Ed : u_T := fun k => match k with
  | 0 => ("ExactDigits", "digits", "[B", true)
  | 1 => ("ExactDigits", "count", "I", false)
  | 2 => ("ExactDigits", "point", "I", false)
  | 3 => ("ExactDigits", "less", "Z", false)
  | _ => ("ExactDigits", "scratch", "LExactDigits$Natural;", true)
def y_Ed : Nat → FieldType := fun k => match k with
  | 0 => .array .byte
  | 1 => .int
  | 2 => .int
  | 3 => .boolean
  | _ => .object "ExactDigits$Natural"
theorem n_Ed : ∀ a, a < 5 → ∀ b, b < 5 → a ≠ b → (T_Ed a).2.1 ≠ (T_Ed b).2.1 := by decide +kernel
theorem t_Ed : ∀ k, k < 5 → parseFieldDescriptor (T_Ed k).2.2.1 = some (y_Ed k) := by decide +kernel
def T_De : u_T := fun k => match k with
  | 0 => ("ExactDigitsModel$Decimal", "w", "[I", true)
  | 1 => ("ExactDigitsModel$Decimal", "from", "I", false)
  | _ => ("ExactDigitsModel$Decimal", "to", "I", false)
def y_De : Nat → FieldType := fun k => match k with
  | 0 => .array .int
  | 1 => .int
  | _ => .int
theorem n_De : ∀ a, a < 3 → ∀ b, b < 3 → a ≠ b → (T_De a).2.1 ≠ (T_De b).2.1 := by decide +kernel
theorem t_De : ∀ k, k < 3 → parseFieldDescriptor (T_De k).2.2.1 = some (y_De k) := by decide +kernel
def T_Ro : u_T := fun k => match k with
  | 0 => ("ExactDigitsModel$Row", "d", "[B", true)
  | 1 => ("ExactDigitsModel$Row", "n", "I", false)
  | _ => ("ExactDigitsModel$Row", "point", "I", false)
def y_Ro : Nat → FieldType := fun k => match k with
  | 0 => .array .byte
  | 1 => .int
  | _ => .int
theorem n_Ro : ∀ a, a < 3 → ∀ b, b < 3 → a ≠ b → (T_Ro a).2.1 ≠ (T_Ro b).2.1 := by decide +kernel
theorem t_Ro : ∀ k, k < 3 → parseFieldDescriptor (T_Ro k).2.2.1 = some (y_Ro k) := by decide +kernel
def T_Mo : u_T := fun k => match k with
  | 0 => ("ExactDigitsModel", "number", "LExactDigitsModel$Row;", true)
  | 1 => ("ExactDigitsModel", "under", "LExactDigitsModel$Row;", true)
  | 2 => ("ExactDigitsModel", "over", "LExactDigitsModel$Row;", true)
  | 3 => ("ExactDigitsModel", "exact", "LExactDigitsModel$Row;", true)
  | 4 => ("ExactDigitsModel", "decimal", "LExactDigitsModel$Decimal;", true)
  | 5 => ("ExactDigitsModel", "isLess", "Z", false)
  | 6 => ("ExactDigitsModel", "thrown", "I", false)
  | 7 => ("ExactDigitsModel", "mantissa", "J", false)
  | 8 => ("ExactDigitsModel", "power", "I", false)
  | _ => ("ExactDigitsModel", "isCloser", "Z", false)
def y_Mo : Nat → FieldType := fun k => match k with
  | 0 => .object "ExactDigitsModel$Row"
  | 1 => .object "ExactDigitsModel$Row"
  | 2 => .object "ExactDigitsModel$Row"
  | 3 => .object "ExactDigitsModel$Row"
  | 4 => .object "ExactDigitsModel$Decimal"
  | 5 => .boolean
  | 6 => .int
  | 7 => .long
  | 8 => .int
  | _ => .boolean
theorem n_Mo : ∀ a, a < 10 → ∀ b, b < 10 → a ≠ b → (T_Mo a).2.1 ≠ (T_Mo b).2.1 := by decide +kernel
theorem t_Mo : ∀ k, k < 10 → parseFieldDescriptor (T_Mo k).2.2.1 = some (y_Mo k) := by decide +kernel
/-- the classes whose objects the worlds hold: 0 Natural, 1 ExactDigits, 2 Decimal, 3 Row, 4 Model -/
abbrev ecl : List vw_C := [(R_Na, T_Na, 2), (R_Ed, T_Ed, 5), (R_De, T_De, 3), (R_Ro, T_Ro, 3), (R_Mo, T_Mo, 10)]
abbrev b_Ed_init : ByteArray := prog_1_method_1_code
def m_Ed_init : MethodName := ⟨R_Ed, "<init>", "()V"⟩
abbrev b_Ob_init : ByteArray := object_method_1_code
def m_Ob_init : MethodName := ⟨R_Ob, "<init>", "()V"⟩
abbrev b_Na_init : ByteArray := prog_3_method_1_code
def m_Na_init : MethodName := ⟨R_Na, "<init>", "()V"⟩
abbrev b_Ed_whole : ByteArray := prog_1_method_2_code
def m_Ed_whole : MethodName := ⟨R_Ed, "whole", "(J)I"⟩
abbrev b_Na_setUnsigned : ByteArray := prog_3_method_2_code
def m_Na_setUnsigned : MethodName := ⟨R_Na, "setUnsigned", "(J)V"⟩
abbrev b_Ed_giveScratch : ByteArray := prog_1_method_17_code
def m_Ed_giveScratch : MethodName := ⟨R_Ed, "giveScratch", "(I)V"⟩
abbrev b_Na_length : ByteArray := prog_3_method_6_code
def m_Na_length : MethodName := ⟨R_Na, "length", "()I"⟩
abbrev b_Na_copyDigits : ByteArray := prog_3_method_7_code
def m_Na_copyDigits : MethodName := ⟨R_Na, "copyDigits", "([B)Z"⟩
abbrev b_Na_hasDigitBelow : ByteArray := prog_3_method_10_code
def m_Na_hasDigitBelow : MethodName := ⟨R_Na, "hasDigitBelow", "(I)Z"⟩
abbrev b_Ma_min : ByteArray := prog_14_method_69_code
def m_Ma_min : MethodName := ⟨R_Ma, "min", "(II)I"⟩
abbrev b_Ed_dropZerosBehind : ByteArray := prog_1_method_19_code
def m_Ed_dropZerosBehind : MethodName := ⟨R_Ed, "dropZerosBehind", "()V"⟩
abbrev b_Ed_digit : ByteArray := prog_1_method_10_code
def m_Ed_digit : MethodName := ⟨R_Ed, "digit", "(I)I"⟩
abbrev b_Ed_nearest : ByteArray := prog_1_method_12_code
def m_Ed_nearest : MethodName := ⟨R_Ed, "nearest", "(Z)J"⟩
abbrev b_Na_setDigits : ByteArray := prog_3_method_3_code
def m_Na_setDigits : MethodName := ⟨R_Na, "setDigits", "([BI)V"⟩
abbrev b_Ed_formatOf : ByteArray := prog_1_method_14_code
def m_Ed_formatOf : MethodName := ⟨R_Ed, "formatOf", "(Z)LExactDigits$Format;"⟩
abbrev b_Ed_nearestToScratch : ByteArray := prog_1_method_28_code
def m_Ed_nearestToScratch : MethodName := ⟨R_Ed, "nearestToScratch", "(IZLExactDigits$Format;)J"⟩
abbrev b_Ed_bitsOfTenTo : ByteArray := prog_1_method_29_code
def m_Ed_bitsOfTenTo : MethodName := ⟨R_Ed, "bitsOfTenTo", "(I)I"⟩
abbrev b_Na_timesTwoTo : ByteArray := prog_3_method_4_code
def m_Na_timesTwoTo : MethodName := ⟨R_Na, "timesTwoTo", "(I)I"⟩
abbrev b_Na_times : ByteArray := prog_3_method_5_code
def m_Na_times : MethodName := ⟨R_Na, "times", "(I)V"⟩
abbrev b_Na_firstDigits : ByteArray := prog_3_method_8_code
def m_Na_firstDigits : MethodName := ⟨R_Na, "firstDigits", "(I)J"⟩
abbrev b_Na_digitAt : ByteArray := prog_3_method_9_code
def m_Na_digitAt : MethodName := ⟨R_Na, "digitAt", "(I)I"⟩
abbrev b_Fo_nearestTo : ByteArray := prog_2_method_7_code
def m_Fo_nearestTo : MethodName := ⟨R_Fo, "nearestTo", "(JZI)J"⟩
abbrev b_Fo_bitsOf : ByteArray := prog_2_method_8_code
def m_Fo_bitsOf : MethodName := ⟨R_Fo, "bitsOf", "(J)I"⟩
abbrev b_Ma_max : ByteArray := prog_14_method_65_code
def m_Ma_max : MethodName := ⟨R_Ma, "max", "(II)I"⟩
abbrev b_Ed_digest : ByteArray := prog_1_method_13_code
def m_Ed_digest : MethodName := ⟨R_Ed, "digest", "()J"⟩
abbrev b_La_real : ByteArray := method_3_code
def m_La_real : MethodName := ⟨R_La, "real", "(LExactDigits;JZ[J)I"⟩
abbrev b_Ed_real : ByteArray := prog_1_method_3_code
def m_Ed_real : MethodName := ⟨R_Ed, "real", "(JZ)I"⟩
abbrev b_Ed_finiteSize : ByteArray := prog_1_method_15_code
def m_Ed_finiteSize : MethodName := ⟨R_Ed, "finiteSize", "(JLExactDigits$Format;)J"⟩
abbrev b_Fo_withoutSign : ByteArray := prog_2_method_4_code
def m_Fo_withoutSign : MethodName := ⟨R_Fo, "withoutSign", "(J)J"⟩
abbrev b_Th_init : ByteArray := prog_17_method_1_code
def m_Th_init : MethodName := ⟨R_Th, "<init>", "()V"⟩
abbrev b_Th_fillInStackTrace : ByteArray := prog_17_method_18_code
def m_Th_fillInStackTrace : MethodName := ⟨R_Th, "fillInStackTrace", "()Ljava/lang/Throwable;"⟩
abbrev b_Ae_init : ByteArray := prog_8_method_1_code
def m_Ae_init : MethodName := ⟨R_Ae, "<init>", "()V"⟩
abbrev b_Re_init : ByteArray := prog_15_method_1_code
def m_Re_init : MethodName := ⟨R_Re, "<init>", "()V"⟩
abbrev b_Ex_init : ByteArray := prog_10_method_1_code
def m_Ex_init : MethodName := ⟨R_Ex, "<init>", "()V"⟩
abbrev b_Ed_giveExact : ByteArray := prog_1_method_18_code
def m_Ed_giveExact : MethodName := ⟨R_Ed, "giveExact", "(JLExactDigits$Format;)V"⟩
abbrev b_Fo_significand : ByteArray := prog_2_method_5_code
def m_Fo_significand : MethodName := ⟨R_Fo, "significand", "(J)J"⟩
abbrev b_Fo_exponent : ByteArray := prog_2_method_6_code
def m_Fo_exponent : MethodName := ⟨R_Fo, "exponent", "(J)I"⟩
abbrev b_La_shortest : ByteArray := method_4_code
def m_La_shortest : MethodName := ⟨R_La, "shortest", "(LExactDigits;JZ[J)I"⟩
abbrev b_Ed_shortest : ByteArray := prog_1_method_4_code
def m_Ed_shortest : MethodName := ⟨R_Ed, "shortest", "(JZ)I"⟩
abbrev b_Ed_shorten : ByteArray := prog_1_method_23_code
def m_Ed_shorten : MethodName := ⟨R_Ed, "shorten", "(JLExactDigits$Format;)V"⟩
abbrev b_Ed_neighbourReadBack : ByteArray := prog_1_method_24_code
def m_Ed_neighbourReadBack : MethodName := ⟨R_Ed, "neighbourReadBack", "(IJLExactDigits$Format;)J"⟩
abbrev b_Ed_firstDigits : ByteArray := prog_1_method_25_code
def m_Ed_firstDigits : MethodName := ⟨R_Ed, "firstDigits", "(I)J"⟩
abbrev b_Ed_isNearerAbove : ByteArray := prog_1_method_26_code
def m_Ed_isNearerAbove : MethodName := ⟨R_Ed, "isNearerAbove", "(IJ)Z"⟩
abbrev b_Ed_readsBack : ByteArray := prog_1_method_27_code
def m_Ed_readsBack : MethodName := ⟨R_Ed, "readsBack", "(JIJLExactDigits$Format;)Z"⟩
abbrev b_La_put : ByteArray := method_5_code
def m_La_put : MethodName := ⟨R_La, "put", "(LExactDigits;II[J)I"⟩
abbrev b_Ed_put : ByteArray := prog_1_method_5_code
def m_Ed_put : MethodName := ⟨R_Ed, "put", "(II)I"⟩
abbrev b_Ed_isBeyond : ByteArray := prog_1_method_16_code
def m_Ed_isBeyond : MethodName := ⟨R_Ed, "isBeyond", "(II)Z"⟩
abbrev b_Ia_init : ByteArray := prog_11_method_1_code
def m_Ia_init : MethodName := ⟨R_Ia, "<init>", "()V"⟩
abbrev b_Ed_append : ByteArray := prog_1_method_20_code
def m_Ed_append : MethodName := ⟨R_Ed, "append", "(III)V"⟩
abbrev b_La_shift : ByteArray := method_6_code
def m_La_shift : MethodName := ⟨R_La, "shift", "(LExactDigits;I[J)I"⟩
abbrev b_Ed_shift : ByteArray := prog_1_method_6_code
def m_Ed_shift : MethodName := ⟨R_Ed, "shift", "(I)I"⟩
abbrev b_La_move : ByteArray := method_7_code
def m_La_move : MethodName := ⟨R_La, "move", "(LExactDigits;I[J)I"⟩
abbrev b_Ed_move : ByteArray := prog_1_method_7_code
def m_Ed_move : MethodName := ⟨R_Ed, "move", "(I)I"⟩
abbrev b_La_round : ByteArray := method_8_code
def m_La_round : MethodName := ⟨R_La, "round", "(LExactDigits;I[J)I"⟩
abbrev b_Ed_round : ByteArray := prog_1_method_8_code
def m_Ed_round : MethodName := ⟨R_Ed, "round", "(I)I"⟩
abbrev b_Ed_keepFirstAndOneMore : ByteArray := prog_1_method_22_code
def m_Ed_keepFirstAndOneMore : MethodName := ⟨R_Ed, "keepFirstAndOneMore", "(I)V"⟩
abbrev b_Ed_keepFirst : ByteArray := prog_1_method_21_code
def m_Ed_keepFirst : MethodName := ⟨R_Ed, "keepFirst", "(I)V"⟩
abbrev b_La_cut : ByteArray := method_9_code
def m_La_cut : MethodName := ⟨R_La, "cut", "(LExactDigits;I[J)I"⟩
abbrev b_Ed_cut : ByteArray := prog_1_method_9_code
def m_Ed_cut : MethodName := ⟨R_Ed, "cut", "(I)I"⟩
abbrev b_La_told : ByteArray := method_10_code
def m_La_told : MethodName := ⟨R_La, "told", "(LExactDigits;I[J)I"⟩
abbrev b_Ed_told : ByteArray := prog_1_method_11_code
def m_Ed_told : MethodName := ⟨R_Ed, "told", "(I)I"⟩
abbrev b_Mo_init : ByteArray := prog_5_method_1_code
def m_Mo_init : MethodName := ⟨R_Mo, "<init>", "()V"⟩
abbrev b_Ro_init : ByteArray := prog_7_method_1_code
def m_Ro_init : MethodName := ⟨R_Ro, "<init>", "()V"⟩
abbrev b_De_init : ByteArray := prog_6_method_1_code
def m_De_init : MethodName := ⟨R_De, "<init>", "()V"⟩
abbrev b_Mo_thrown : ByteArray := prog_5_method_2_code
def m_Mo_thrown : MethodName := ⟨R_Mo, "thrown", "()I"⟩
abbrev b_Mo_whole : ByteArray := prog_5_method_4_code
def m_Mo_whole : MethodName := ⟨R_Mo, "whole", "(J)I"⟩
abbrev b_Ro_set : ByteArray := prog_7_method_2_code
def m_Ro_set : MethodName := ⟨R_Ro, "set", "(J)V"⟩
abbrev b_Lo_divideUnsigned : ByteArray := prog_13_method_44_code
def m_Lo_divideUnsigned : MethodName := ⟨R_Lo, "divideUnsigned", "(JJ)J"⟩
abbrev b_Ro_trim : ByteArray := prog_7_method_3_code
def m_Ro_trim : MethodName := ⟨R_Ro, "trim", "()V"⟩
abbrev b_Mo_real : ByteArray := prog_5_method_6_code
def m_Mo_real : MethodName := ⟨R_Mo, "real", "(JZ)I"⟩
abbrev b_Mo_isNumber : ByteArray := prog_5_method_5_code
def m_Mo_isNumber : MethodName := ⟨R_Mo, "isNumber", "(JZ)Z"⟩
abbrev b_Ro_shift : ByteArray := prog_7_method_5_code
def m_Ro_shift : MethodName := ⟨R_Ro, "shift", "(I)V"⟩
abbrev b_Ro_times : ByteArray := prog_7_method_4_code
def m_Ro_times : MethodName := ⟨R_Ro, "times", "(I)V"⟩
abbrev b_Mo_shortest : ByteArray := prog_5_method_7_code
def m_Mo_shortest : MethodName := ⟨R_Mo, "shortest", "(JZ)I"⟩
abbrev b_Ro_copy : ByteArray := prog_7_method_6_code
def m_Ro_copy : MethodName := ⟨R_Ro, "copy", "(LExactDigitsModel$Row;)V"⟩
abbrev b_Mo_first : ByteArray := prog_5_method_8_code
def m_Mo_first : MethodName := ⟨R_Mo, "first", "(IZ)V"⟩
abbrev b_Ro_raise : ByteArray := prog_7_method_9_code
def m_Ro_raise : MethodName := ⟨R_Ro, "raise", "()V"⟩
abbrev b_Mo_isIn : ByteArray := prog_5_method_9_code
def m_Mo_isIn : MethodName := ⟨R_Mo, "isIn", "(Z)Z"⟩
abbrev b_Ro_compare : ByteArray := prog_7_method_8_code
def m_Ro_compare : MethodName := ⟨R_Ro, "compare", "(LExactDigitsModel$Row;)I"⟩
abbrev b_Ro_at : ByteArray := prog_7_method_7_code
def m_Ro_at : MethodName := ⟨R_Ro, "at", "(I)I"⟩
abbrev b_Mo_put : ByteArray := prog_5_method_10_code
def m_Mo_put : MethodName := ⟨R_Mo, "put", "(II)I"⟩
abbrev b_Mo_shift : ByteArray := prog_5_method_11_code
def m_Mo_shift : MethodName := ⟨R_Mo, "shift", "(I)I"⟩
abbrev b_Mo_kept : ByteArray := prog_5_method_3_code
def m_Mo_kept : MethodName := ⟨R_Mo, "kept", "()I"⟩
abbrev b_Mo_move : ByteArray := prog_5_method_12_code
def m_Mo_move : MethodName := ⟨R_Mo, "move", "(I)I"⟩
abbrev b_Mo_round : ByteArray := prog_5_method_14_code
def m_Mo_round : MethodName := ⟨R_Mo, "round", "(I)I"⟩
abbrev b_Mo_ended : ByteArray := prog_5_method_13_code
def m_Mo_ended : MethodName := ⟨R_Mo, "ended", "(IZ)I"⟩
abbrev b_Mo_cut : ByteArray := prog_5_method_15_code
def m_Mo_cut : MethodName := ⟨R_Mo, "cut", "(I)I"⟩
abbrev b_Mo_digit : ByteArray := prog_5_method_16_code
def m_Mo_digit : MethodName := ⟨R_Mo, "digit", "(I)I"⟩
abbrev b_Mo_told : ByteArray := prog_5_method_17_code
def m_Mo_told : MethodName := ⟨R_Mo, "told", "(I)I"⟩
abbrev b_Mo_nearest : ByteArray := prog_5_method_18_code
def m_Mo_nearest : MethodName := ⟨R_Mo, "nearest", "(Z)J"⟩
abbrev b_De_clear : ByteArray := prog_6_method_2_code
def m_De_clear : MethodName := ⟨R_De, "clear", "()V"⟩
abbrev b_De_add : ByteArray := prog_6_method_12_code
def m_De_add : MethodName := ⟨R_De, "add", "(II)V"⟩
abbrev b_Mo_bits : ByteArray := prog_5_method_19_code
def m_Mo_bits : MethodName := ⟨R_Mo, "bits", "()I"⟩
abbrev b_Mo_ones : ByteArray := prog_5_method_20_code
def m_Mo_ones : MethodName := ⟨R_Mo, "ones", "()J"⟩
abbrev b_Lo_numberOfLeadingZeros : ByteArray := prog_13_method_48_code
def m_Lo_numberOfLeadingZeros : MethodName := ⟨R_Lo, "numberOfLeadingZeros", "(J)I"⟩
abbrev b_In_numberOfLeadingZeros : ByteArray := prog_12_method_47_code
def m_In_numberOfLeadingZeros : MethodName := ⟨R_In, "numberOfLeadingZeros", "(I)I"⟩
abbrev b_De_half : ByteArray := prog_6_method_5_code
def m_De_half : MethodName := ⟨R_De, "half", "()V"⟩
abbrev b_De_twice : ByteArray := prog_6_method_4_code
def m_De_twice : MethodName := ⟨R_De, "twice", "()V"⟩
abbrev b_De_digit : ByteArray := prog_6_method_7_code
def m_De_digit : MethodName := ⟨R_De, "digit", "(I)I"⟩
abbrev b_De_isBelow : ByteArray := prog_6_method_11_code
def m_De_isBelow : MethodName := ⟨R_De, "isBelow", "(I)Z"⟩
abbrev b_De_low : ByteArray := prog_6_method_10_code
def m_De_low : MethodName := ⟨R_De, "low", "()I"⟩
abbrev b_Mo_digest : ByteArray := prog_5_method_21_code
def m_Mo_digest : MethodName := ⟨R_Mo, "digest", "()J"⟩
abbrev b_La_law : ByteArray := code
def m_La_law : MethodName := ⟨R_La, "law", "([I)Z"⟩
/-- the words of the tables that stay as the tables warm -/
def gw : List Cond := lw_tbl.filter goodWord
theorem gw_t {w : Cond} (i : Nat) (h : tables_1[i]? = some w) (g : goodWord w = true) : w ∈ gw := List.mem_filter.mpr ⟨List.mem_append_right _ (List.mem_of_getElem? h), g⟩
theorem gw_s {w : Cond} (i : Nat) (h : (k2_sels lw_privs)[i]? = some w) (g : goodWord w = true) : w ∈ gw := List.mem_filter.mpr ⟨List.mem_append_left _ (List.mem_of_getElem? h), g⟩
theorem gw_in {w : Cond} (h : w ∈ gw) : w ∈ lw_tbl := (List.mem_filter.mp h).1
theorem gw_good {X : Cond} {ws : List Cond} (h : ∀ w ∈ ws, w ∈ gw) : GoodIn (X :: gw) ws := fun w hw => ⟨List.mem_cons_of_mem _ (h w hw), good_of_word (List.mem_filter.mp (h w hw)).2⟩
theorem tw_0 : Cond.initialized "ExactDigitsLaw" ∈ gw := gw_t 0 (by decide +kernel) (by decide +kernel)
theorem tw_1 : Cond.initialized "ExactDigits" ∈ gw := gw_t 1 (by decide +kernel) (by decide +kernel)
theorem tw_2 : Cond.initialized "ExactDigits$Natural" ∈ gw := gw_t 2 (by decide +kernel) (by decide +kernel)
theorem tw_3 : Cond.initialized "ExactDigitsModel" ∈ gw := gw_t 3 (by decide +kernel) (by decide +kernel)
theorem tw_4 : Cond.initialized "ExactDigitsModel$Row" ∈ gw := gw_t 4 (by decide +kernel) (by decide +kernel)
theorem tw_5 : Cond.initialized "ExactDigitsModel$Decimal" ∈ gw := gw_t 5 (by decide +kernel) (by decide +kernel)
theorem tw_6 : Cond.initialized "java/lang/Math" ∈ gw := gw_t 6 (by decide +kernel) (by decide +kernel)
theorem tw_7 : Cond.initialized "java/lang/Long" ∈ gw := gw_t 7 (by decide +kernel) (by decide +kernel)
theorem tw_8 : Cond.initialized "java/lang/System" ∈ gw := gw_t 8 (by decide +kernel) (by decide +kernel)
theorem tw_9 : Cond.initialized "java/lang/Enum" ∈ gw := gw_t 9 (by decide +kernel) (by decide +kernel)
theorem tw_10 : Cond.initialized "ExactDigits$Format" ∈ gw := gw_t 10 (by decide +kernel) (by decide +kernel)
theorem tw_11 : Cond.initialized "java/lang/Throwable" ∈ gw := gw_t 11 (by decide +kernel) (by decide +kernel)
theorem tw_12 : Cond.initialized "java/lang/Exception" ∈ gw := gw_t 12 (by decide +kernel) (by decide +kernel)
theorem tw_13 : Cond.initialized "java/lang/RuntimeException" ∈ gw := gw_t 13 (by decide +kernel) (by decide +kernel)
theorem tw_14 : Cond.initialized "java/lang/ArithmeticException" ∈ gw := gw_t 14 (by decide +kernel) (by decide +kernel)
theorem tw_15 : Cond.initialized "java/lang/IllegalArgumentException" ∈ gw := gw_t 15 (by decide +kernel) (by decide +kernel)
theorem tw_16 : Cond.initialized "java/lang/Integer" ∈ gw := gw_t 16 (by decide +kernel) (by decide +kernel)
theorem tw_17 : Cond.classLink "ExactDigitsLaw" 8 "ExactDigits" ∈ gw := gw_t 17 (by decide +kernel) (by decide +kernel)
theorem tw_18 : Cond.instantiable "ExactDigits" 5 ∈ gw := gw_t 18 (by decide +kernel) (by decide +kernel)
theorem tw_19 : Cond.methodLink "ExactDigitsLaw" 40 m_Ed_init ∈ gw := gw_t 19 (by decide +kernel) (by decide +kernel)
theorem tw_20 : Cond.instanceMethod m_Ed_init ∈ gw := gw_t 20 (by decide +kernel) (by decide +kernel)
theorem tw_21 : Cond.code m_Ed_init prog_1_method_1_code 1 (none) ∈ gw := gw_t 21 (by decide +kernel) (by decide +kernel)
theorem tw_22 : Cond.methodLink "ExactDigits" 1 m_Ob_init ∈ gw := gw_t 22 (by decide +kernel) (by decide +kernel)
theorem tw_23 : Cond.instanceMethod m_Ob_init ∈ gw := gw_t 23 (by decide +kernel) (by decide +kernel)
theorem tw_24 : Cond.code m_Ob_init object_method_1_code 1 (none) ∈ gw := gw_t 24 (by decide +kernel) (by decide +kernel)
theorem tw_25 : Cond.classLink "ExactDigits" 13 "ExactDigits$Natural" ∈ gw := gw_t 25 (by decide +kernel) (by decide +kernel)
theorem tw_26 : Cond.instantiable "ExactDigits$Natural" 2 ∈ gw := gw_t 26 (by decide +kernel) (by decide +kernel)
theorem tw_28 : Cond.instanceMethod m_Na_init ∈ gw := gw_t 28 (by decide +kernel) (by decide +kernel)
theorem tw_29 : Cond.code m_Na_init prog_3_method_1_code 1 (none) ∈ gw := gw_t 29 (by decide +kernel) (by decide +kernel)
theorem tw_30 : Cond.methodLink "ExactDigits$Natural" 1 m_Ob_init ∈ gw := gw_t 30 (by decide +kernel) (by decide +kernel)
theorem tw_31 : Cond.fieldLink "ExactDigits$Natural" 9 "ExactDigits$Natural" "parts" "[I" ∈ gw := gw_t 31 (by decide +kernel) (by decide +kernel)
theorem tw_32 : Cond.fieldLink "ExactDigits$Natural" 13 "ExactDigits$Natural" "size" "I" ∈ gw := gw_t 32 (by decide +kernel) (by decide +kernel)
theorem tw_33 : Cond.laysFinal "ExactDigits$Natural" "ExactDigits$Natural" "parts" "[I" ∈ gw := gw_t 33 (by decide +kernel) (by decide +kernel)
theorem tw_34 : Cond.soleField "ExactDigits$Natural" "parts" ∈ gw := gw_t 34 (by decide +kernel) (by decide +kernel)
theorem tw_35 : Cond.lays "ExactDigits$Natural" "ExactDigits$Natural" "size" "I" ∈ gw := gw_t 35 (by decide +kernel) (by decide +kernel)
theorem tw_36 : Cond.soleField "ExactDigits$Natural" "size" ∈ gw := gw_t 36 (by decide +kernel) (by decide +kernel)
theorem tw_37 : Cond.superclass "ExactDigits$Natural" "java/lang/Object" ∈ gw := gw_t 37 (by decide +kernel) (by decide +kernel)
theorem tw_38 : Cond.arrayClass FieldType.byte ∈ gw := gw_t 38 (by decide +kernel) (by decide +kernel)
theorem tw_39 : Cond.arrayClass FieldType.int ∈ gw := gw_t 39 (by decide +kernel) (by decide +kernel)
theorem tw_40 : Cond.fieldLink "ExactDigits" 9 "ExactDigits" "digits" "[B" ∈ gw := gw_t 40 (by decide +kernel) (by decide +kernel)
theorem tw_41 : Cond.fieldLink "ExactDigits" 20 "ExactDigits" "count" "I" ∈ gw := gw_t 41 (by decide +kernel) (by decide +kernel)
theorem tw_42 : Cond.fieldLink "ExactDigits" 24 "ExactDigits" "point" "I" ∈ gw := gw_t 42 (by decide +kernel) (by decide +kernel)
theorem tw_43 : Cond.fieldLink "ExactDigits" 27 "ExactDigits" "less" "Z" ∈ gw := gw_t 43 (by decide +kernel) (by decide +kernel)
theorem tw_44 : Cond.fieldLink "ExactDigits" 16 "ExactDigits" "scratch" "LExactDigits$Natural;" ∈ gw := gw_t 44 (by decide +kernel) (by decide +kernel)
theorem tw_45 : Cond.laysFinal "ExactDigits" "ExactDigits" "digits" "[B" ∈ gw := gw_t 45 (by decide +kernel) (by decide +kernel)
theorem tw_46 : Cond.soleField "ExactDigits" "digits" ∈ gw := gw_t 46 (by decide +kernel) (by decide +kernel)
theorem tw_47 : Cond.lays "ExactDigits" "ExactDigits" "count" "I" ∈ gw := gw_t 47 (by decide +kernel) (by decide +kernel)
theorem tw_48 : Cond.soleField "ExactDigits" "count" ∈ gw := gw_t 48 (by decide +kernel) (by decide +kernel)
theorem tw_49 : Cond.lays "ExactDigits" "ExactDigits" "point" "I" ∈ gw := gw_t 49 (by decide +kernel) (by decide +kernel)
theorem tw_50 : Cond.soleField "ExactDigits" "point" ∈ gw := gw_t 50 (by decide +kernel) (by decide +kernel)
theorem tw_51 : Cond.lays "ExactDigits" "ExactDigits" "less" "Z" ∈ gw := gw_t 51 (by decide +kernel) (by decide +kernel)
theorem tw_52 : Cond.soleField "ExactDigits" "less" ∈ gw := gw_t 52 (by decide +kernel) (by decide +kernel)
theorem tw_53 : Cond.laysFinal "ExactDigits" "ExactDigits" "scratch" "LExactDigits$Natural;" ∈ gw := gw_t 53 (by decide +kernel) (by decide +kernel)
theorem tw_54 : Cond.soleField "ExactDigits" "scratch" ∈ gw := gw_t 54 (by decide +kernel) (by decide +kernel)
theorem tw_55 : Cond.superclass "ExactDigits" "java/lang/Object" ∈ gw := gw_t 55 (by decide +kernel) (by decide +kernel)
theorem tw_56 : Cond.methodLink "ExactDigitsLaw" 46 m_Ed_whole ∈ gw := gw_t 56 (by decide +kernel) (by decide +kernel)
theorem tw_57 : Cond.instanceMethod m_Ed_whole ∈ gw := gw_t 57 (by decide +kernel) (by decide +kernel)
theorem tw_58 : Cond.selects "ExactDigits" m_Ed_whole m_Ed_whole ∈ gw := gw_t 58 (by decide +kernel) (by decide +kernel)
theorem tw_59 : Cond.code m_Ed_whole prog_1_method_2_code 3 (Option.some FieldType.int) ∈ gw := gw_t 59 (by decide +kernel) (by decide +kernel)
theorem tw_60 : Cond.methodLink "ExactDigits" 31 m_Na_setUnsigned ∈ gw := gw_t 60 (by decide +kernel) (by decide +kernel)
theorem tw_61 : Cond.instanceMethod m_Na_setUnsigned ∈ gw := gw_t 61 (by decide +kernel) (by decide +kernel)
theorem tw_62 : Cond.selects "ExactDigits$Natural" m_Na_setUnsigned m_Na_setUnsigned ∈ gw := gw_t 62 (by decide +kernel) (by decide +kernel)
theorem tw_63 : Cond.code m_Na_setUnsigned prog_3_method_2_code 7 (none) ∈ gw := gw_t 63 (by decide +kernel) (by decide +kernel)
theorem tw_64 : Cond.constantLong "ExactDigits$Natural" 17 (500000000 : Int64) ∈ gw := gw_t 64 (by decide +kernel) (by decide +kernel)
theorem tw_65 : Cond.constantLong "ExactDigits$Natural" 19 (1000000000 : Int64) ∈ gw := gw_t 65 (by decide +kernel) (by decide +kernel)
theorem tw_66 : Cond.methodLink "ExactDigits" 35 m_Ed_giveScratch ∈ gw := gw_t 66 (by decide +kernel) (by decide +kernel)
theorem tw_68 : Cond.instanceMethod m_Ed_giveScratch ∈ gw := gw_t 68 (by decide +kernel) (by decide +kernel)
theorem tw_69 : Cond.code m_Ed_giveScratch prog_1_method_17_code 3 (none) ∈ gw := gw_t 69 (by decide +kernel) (by decide +kernel)
theorem tw_70 : Cond.methodLink "ExactDigits" 107 m_Na_length ∈ gw := gw_t 70 (by decide +kernel) (by decide +kernel)
theorem tw_71 : Cond.instanceMethod m_Na_length ∈ gw := gw_t 71 (by decide +kernel) (by decide +kernel)
theorem tw_72 : Cond.selects "ExactDigits$Natural" m_Na_length m_Na_length ∈ gw := gw_t 72 (by decide +kernel) (by decide +kernel)
theorem tw_73 : Cond.code m_Na_length prog_3_method_6_code 3 (Option.some FieldType.int) ∈ gw := gw_t 73 (by decide +kernel) (by decide +kernel)
theorem tw_74 : Cond.methodLink "ExactDigits" 111 m_Na_copyDigits ∈ gw := gw_t 74 (by decide +kernel) (by decide +kernel)
theorem tw_75 : Cond.instanceMethod m_Na_copyDigits ∈ gw := gw_t 75 (by decide +kernel) (by decide +kernel)
theorem tw_76 : Cond.selects "ExactDigits$Natural" m_Na_copyDigits m_Na_copyDigits ∈ gw := gw_t 76 (by decide +kernel) (by decide +kernel)
theorem tw_77 : Cond.code m_Na_copyDigits prog_3_method_7_code 6 (Option.some FieldType.boolean) ∈ gw := gw_t 77 (by decide +kernel) (by decide +kernel)
theorem tw_78 : Cond.methodLink "ExactDigits$Natural" 34 m_Na_length ∈ gw := gw_t 78 (by decide +kernel) (by decide +kernel)
theorem tw_79 : Cond.methodLink "ExactDigits$Natural" 38 m_Na_hasDigitBelow ∈ gw := gw_t 79 (by decide +kernel) (by decide +kernel)
theorem tw_80 : Cond.instanceMethod m_Na_hasDigitBelow ∈ gw := gw_t 80 (by decide +kernel) (by decide +kernel)
theorem tw_81 : Cond.selects "ExactDigits$Natural" m_Na_hasDigitBelow m_Na_hasDigitBelow ∈ gw := gw_t 81 (by decide +kernel) (by decide +kernel)
theorem tw_82 : Cond.code m_Na_hasDigitBelow prog_3_method_10_code 5 (Option.some FieldType.boolean) ∈ gw := gw_t 82 (by decide +kernel) (by decide +kernel)
theorem tw_83 : Cond.methodLink "ExactDigits$Natural" 21 m_Ma_min ∈ gw := gw_t 83 (by decide +kernel) (by decide +kernel)
theorem tw_84 : Cond.static m_Ma_min ∈ gw := gw_t 84 (by decide +kernel) (by decide +kernel)
theorem tw_85 : Cond.code m_Ma_min prog_14_method_69_code 2 (Option.some FieldType.int) ∈ gw := gw_t 85 (by decide +kernel) (by decide +kernel)
theorem tw_86 : Cond.methodLink "ExactDigits" 115 m_Ma_min ∈ gw := gw_t 86 (by decide +kernel) (by decide +kernel)
theorem tw_87 : Cond.methodLink "ExactDigits" 121 m_Ed_dropZerosBehind ∈ gw := gw_t 87 (by decide +kernel) (by decide +kernel)
theorem tw_89 : Cond.instanceMethod m_Ed_dropZerosBehind ∈ gw := gw_t 89 (by decide +kernel) (by decide +kernel)
theorem tw_90 : Cond.code m_Ed_dropZerosBehind prog_1_method_19_code 1 (none) ∈ gw := gw_t 90 (by decide +kernel) (by decide +kernel)
theorem tw_91 : Cond.methodLink "ExactDigitsLaw" 81 m_Ed_digit ∈ gw := gw_t 91 (by decide +kernel) (by decide +kernel)
theorem tw_92 : Cond.instanceMethod m_Ed_digit ∈ gw := gw_t 92 (by decide +kernel) (by decide +kernel)
theorem tw_93 : Cond.selects "ExactDigits" m_Ed_digit m_Ed_digit ∈ gw := gw_t 93 (by decide +kernel) (by decide +kernel)
theorem tw_94 : Cond.code m_Ed_digit prog_1_method_10_code 4 (Option.some FieldType.int) ∈ gw := gw_t 94 (by decide +kernel) (by decide +kernel)
theorem tw_95 : Cond.methodLink "ExactDigitsLaw" 88 m_Ed_nearest ∈ gw := gw_t 95 (by decide +kernel) (by decide +kernel)
theorem tw_96 : Cond.instanceMethod m_Ed_nearest ∈ gw := gw_t 96 (by decide +kernel) (by decide +kernel)
theorem tw_97 : Cond.selects "ExactDigits" m_Ed_nearest m_Ed_nearest ∈ gw := gw_t 97 (by decide +kernel) (by decide +kernel)
theorem tw_98 : Cond.code m_Ed_nearest prog_1_method_12_code 2 (Option.some FieldType.long) ∈ gw := gw_t 98 (by decide +kernel) (by decide +kernel)
theorem tw_99 : Cond.methodLink "ExactDigits" 65 m_Na_setDigits ∈ gw := gw_t 99 (by decide +kernel) (by decide +kernel)
theorem tw_100 : Cond.instanceMethod m_Na_setDigits ∈ gw := gw_t 100 (by decide +kernel) (by decide +kernel)
theorem tw_101 : Cond.selects "ExactDigits$Natural" m_Na_setDigits m_Na_setDigits ∈ gw := gw_t 101 (by decide +kernel) (by decide +kernel)
theorem tw_102 : Cond.code m_Na_setDigits prog_3_method_3_code 6 (none) ∈ gw := gw_t 102 (by decide +kernel) (by decide +kernel)
theorem tw_103 : Cond.methodLink "ExactDigits" 39 m_Ed_formatOf ∈ gw := gw_t 103 (by decide +kernel) (by decide +kernel)
theorem tw_104 : Cond.static m_Ed_formatOf ∈ gw := gw_t 104 (by decide +kernel) (by decide +kernel)
theorem tw_105 : Cond.code m_Ed_formatOf prog_1_method_14_code 1 (Option.some (FieldType.object "ExactDigits$Format")) ∈ gw := gw_t 105 (by decide +kernel) (by decide +kernel)
theorem tw_106 : Cond.fieldLink "ExactDigits" 87 "ExactDigits$Format" "FLOAT" "LExactDigits$Format;" ∈ gw := gw_t 106 (by decide +kernel) (by decide +kernel)
theorem tw_108 : Cond.fieldLink "ExactDigits" 93 "ExactDigits$Format" "DOUBLE" "LExactDigits$Format;" ∈ gw := gw_t 108 (by decide +kernel) (by decide +kernel)
theorem tw_110 : Cond.methodLink "ExactDigits" 79 m_Ed_nearestToScratch ∈ gw := gw_t 110 (by decide +kernel) (by decide +kernel)
theorem tw_112 : Cond.instanceMethod m_Ed_nearestToScratch ∈ gw := gw_t 112 (by decide +kernel) (by decide +kernel)
theorem tw_113 : Cond.code m_Ed_nearestToScratch prog_1_method_28_code 9 (Option.some FieldType.long) ∈ gw := gw_t 113 (by decide +kernel) (by decide +kernel)
theorem tw_114 : Cond.methodLink "ExactDigits" 154 m_Ed_bitsOfTenTo ∈ gw := gw_t 114 (by decide +kernel) (by decide +kernel)
theorem tw_115 : Cond.static m_Ed_bitsOfTenTo ∈ gw := gw_t 115 (by decide +kernel) (by decide +kernel)
theorem tw_116 : Cond.code m_Ed_bitsOfTenTo prog_1_method_29_code 1 (Option.some FieldType.int) ∈ gw := gw_t 116 (by decide +kernel) (by decide +kernel)
theorem tw_117 : Cond.constant "ExactDigits" 166 (217706 : Int32) ∈ gw := gw_t 117 (by decide +kernel) (by decide +kernel)
theorem tw_118 : Cond.methodLink "ExactDigits" 69 m_Na_timesTwoTo ∈ gw := gw_t 118 (by decide +kernel) (by decide +kernel)
theorem tw_119 : Cond.instanceMethod m_Na_timesTwoTo ∈ gw := gw_t 119 (by decide +kernel) (by decide +kernel)
theorem tw_120 : Cond.selects "ExactDigits$Natural" m_Na_timesTwoTo m_Na_timesTwoTo ∈ gw := gw_t 120 (by decide +kernel) (by decide +kernel)
theorem tw_121 : Cond.code m_Na_timesTwoTo prog_3_method_4_code 3 (Option.some FieldType.int) ∈ gw := gw_t 121 (by decide +kernel) (by decide +kernel)
theorem tw_122 : Cond.methodLink "ExactDigits$Natural" 27 m_Na_times ∈ gw := gw_t 122 (by decide +kernel) (by decide +kernel)
theorem tw_124 : Cond.instanceMethod m_Na_times ∈ gw := gw_t 124 (by decide +kernel) (by decide +kernel)
theorem tw_125 : Cond.code m_Na_times prog_3_method_5_code 7 (none) ∈ gw := gw_t 125 (by decide +kernel) (by decide +kernel)
theorem tw_126 : Cond.fieldLink "ExactDigits$Natural" 31 "ExactDigits$Natural" "POWERS_OF_FIVE" "[I" ∈ gw := gw_t 126 (by decide +kernel) (by decide +kernel)
theorem tw_128 : Cond.methodLink "ExactDigits" 157 m_Na_firstDigits ∈ gw := gw_t 128 (by decide +kernel) (by decide +kernel)
theorem tw_129 : Cond.instanceMethod m_Na_firstDigits ∈ gw := gw_t 129 (by decide +kernel) (by decide +kernel)
theorem tw_130 : Cond.selects "ExactDigits$Natural" m_Na_firstDigits m_Na_firstDigits ∈ gw := gw_t 130 (by decide +kernel) (by decide +kernel)
theorem tw_131 : Cond.code m_Na_firstDigits prog_3_method_8_code 6 (Option.some FieldType.long) ∈ gw := gw_t 131 (by decide +kernel) (by decide +kernel)
theorem tw_132 : Cond.constantLong "ExactDigits$Natural" 42 (10 : Int64) ∈ gw := gw_t 132 (by decide +kernel) (by decide +kernel)
theorem tw_133 : Cond.methodLink "ExactDigits$Natural" 44 m_Na_digitAt ∈ gw := gw_t 133 (by decide +kernel) (by decide +kernel)
theorem tw_135 : Cond.instanceMethod m_Na_digitAt ∈ gw := gw_t 135 (by decide +kernel) (by decide +kernel)
theorem tw_136 : Cond.code m_Na_digitAt prog_3_method_9_code 4 (Option.some FieldType.int) ∈ gw := gw_t 136 (by decide +kernel) (by decide +kernel)
theorem tw_137 : Cond.methodLink "ExactDigits" 158 m_Na_hasDigitBelow ∈ gw := gw_t 137 (by decide +kernel) (by decide +kernel)
theorem tw_138 : Cond.methodLink "ExactDigits" 162 m_Fo_nearestTo ∈ gw := gw_t 138 (by decide +kernel) (by decide +kernel)
theorem tw_139 : Cond.instanceMethod m_Fo_nearestTo ∈ gw := gw_t 139 (by decide +kernel) (by decide +kernel)
theorem tw_140 : Cond.selects "ExactDigits$Format" m_Fo_nearestTo m_Fo_nearestTo ∈ gw := gw_t 140 (by decide +kernel) (by decide +kernel)
theorem tw_141 : Cond.code m_Fo_nearestTo prog_2_method_7_code 15 (Option.some FieldType.long) ∈ gw := gw_t 141 (by decide +kernel) (by decide +kernel)
theorem tw_142 : Cond.methodLink "ExactDigits$Format" 49 m_Fo_bitsOf ∈ gw := gw_t 142 (by decide +kernel) (by decide +kernel)
theorem tw_143 : Cond.static m_Fo_bitsOf ∈ gw := gw_t 143 (by decide +kernel) (by decide +kernel)
theorem tw_144 : Cond.code m_Fo_bitsOf prog_2_method_8_code 3 (Option.some FieldType.int) ∈ gw := gw_t 144 (by decide +kernel) (by decide +kernel)
theorem tw_145 : Cond.methodLink "ExactDigits$Format" 43 m_Ma_max ∈ gw := gw_t 145 (by decide +kernel) (by decide +kernel)
theorem tw_146 : Cond.static m_Ma_max ∈ gw := gw_t 146 (by decide +kernel) (by decide +kernel)
theorem tw_147 : Cond.code m_Ma_max prog_14_method_65_code 2 (Option.some FieldType.int) ∈ gw := gw_t 147 (by decide +kernel) (by decide +kernel)
theorem tw_148 : Cond.constantLong "ExactDigits$Format" 53 (2 : Int64) ∈ gw := gw_t 148 (by decide +kernel) (by decide +kernel)
theorem tw_149 : Cond.methodLink "ExactDigitsLaw" 93 m_Ed_digest ∈ gw := gw_t 149 (by decide +kernel) (by decide +kernel)
theorem tw_150 : Cond.instanceMethod m_Ed_digest ∈ gw := gw_t 150 (by decide +kernel) (by decide +kernel)
theorem tw_151 : Cond.selects "ExactDigits" m_Ed_digest m_Ed_digest ∈ gw := gw_t 151 (by decide +kernel) (by decide +kernel)
theorem tw_152 : Cond.code m_Ed_digest prog_1_method_13_code 4 (Option.some FieldType.long) ∈ gw := gw_t 152 (by decide +kernel) (by decide +kernel)
theorem tw_153 : Cond.constantLong "ExactDigits" 83 (7 : Int64) ∈ gw := gw_t 153 (by decide +kernel) (by decide +kernel)
theorem tw_154 : Cond.constantLong "ExactDigits" 85 (31 : Int64) ∈ gw := gw_t 154 (by decide +kernel) (by decide +kernel)
theorem tw_155 : Cond.methodLink "ExactDigitsLaw" 51 m_La_real ∈ gw := gw_t 155 (by decide +kernel) (by decide +kernel)
theorem tw_156 : Cond.static m_La_real ∈ gw := gw_t 156 (by decide +kernel) (by decide +kernel)
theorem tw_157 : Cond.codeWith m_La_real method_3_code 6 (Option.some FieldType.int) [(0, 11, 14, 13)] ∈ gw := gw_t 157 (by decide +kernel) (by decide +kernel)
theorem tw_158 : Cond.classLink "ExactDigitsLaw" 13 "java/lang/ArithmeticException" ∈ gw := gw_t 158 (by decide +kernel) (by decide +kernel)
theorem tw_159 : Cond.methodLink "ExactDigitsLaw" 7 m_Ed_real ∈ gw := gw_t 159 (by decide +kernel) (by decide +kernel)
theorem tw_160 : Cond.instanceMethod m_Ed_real ∈ gw := gw_t 160 (by decide +kernel) (by decide +kernel)
theorem tw_161 : Cond.selects "ExactDigits" m_Ed_real m_Ed_real ∈ gw := gw_t 161 (by decide +kernel) (by decide +kernel)
theorem tw_162 : Cond.code m_Ed_real prog_1_method_3_code 5 (Option.some FieldType.int) ∈ gw := gw_t 162 (by decide +kernel) (by decide +kernel)
theorem tw_163 : Cond.methodLink "ExactDigits" 43 m_Ed_finiteSize ∈ gw := gw_t 163 (by decide +kernel) (by decide +kernel)
theorem tw_164 : Cond.static m_Ed_finiteSize ∈ gw := gw_t 164 (by decide +kernel) (by decide +kernel)
theorem tw_165 : Cond.code m_Ed_finiteSize prog_1_method_15_code 5 (Option.some FieldType.long) ∈ gw := gw_t 165 (by decide +kernel) (by decide +kernel)
theorem tw_166 : Cond.methodLink "ExactDigits" 96 m_Fo_withoutSign ∈ gw := gw_t 166 (by decide +kernel) (by decide +kernel)
theorem tw_167 : Cond.instanceMethod m_Fo_withoutSign ∈ gw := gw_t 167 (by decide +kernel) (by decide +kernel)
theorem tw_168 : Cond.selects "ExactDigits$Format" m_Fo_withoutSign m_Fo_withoutSign ∈ gw := gw_t 168 (by decide +kernel) (by decide +kernel)
theorem tw_169 : Cond.code m_Fo_withoutSign prog_2_method_4_code 3 (Option.some FieldType.long) ∈ gw := gw_t 169 (by decide +kernel) (by decide +kernel)
theorem tw_170 : Cond.classLink "ExactDigits" 104 "java/lang/ArithmeticException" ∈ gw := gw_t 170 (by decide +kernel) (by decide +kernel)
theorem tw_171 : Cond.instantiable "java/lang/ArithmeticException" 6 ∈ gw := gw_t 171 (by decide +kernel) (by decide +kernel)
theorem tw_179 : Cond.selects "java/lang/ArithmeticException" ⟨"java/lang/Throwable", "fillInStackTrace", "(I)Ljava/lang/Throwable;"⟩ ⟨"java/lang/Throwable", "fillInStackTrace", "(I)Ljava/lang/Throwable;"⟩ ∈ gw := gw_t 179 (by decide +kernel) (by decide +kernel)
theorem tw_180 : Cond.selects "java/lang/ArithmeticException" m_Th_fillInStackTrace m_Th_fillInStackTrace ∈ gw := gw_t 180 (by decide +kernel) (by decide +kernel)
theorem tw_181 : Cond.lays "java/lang/ArithmeticException" "java/lang/Throwable" "cause" "Ljava/lang/Throwable;" ∈ gw := gw_t 181 (by decide +kernel) (by decide +kernel)
theorem tw_182 : Cond.lays "java/lang/Throwable" "java/lang/Throwable" "cause" "Ljava/lang/Throwable;" ∈ gw := gw_t 182 (by decide +kernel) (by decide +kernel)
theorem tw_183 : Cond.lays "java/lang/ArithmeticException" "java/lang/Throwable" "stackTrace" "[Ljava/lang/StackTraceElement;" ∈ gw := gw_t 183 (by decide +kernel) (by decide +kernel)
theorem tw_184 : Cond.lays "java/lang/Throwable" "java/lang/Throwable" "stackTrace" "[Ljava/lang/StackTraceElement;" ∈ gw := gw_t 184 (by decide +kernel) (by decide +kernel)
theorem tw_185 : Cond.lays "java/lang/ArithmeticException" "java/lang/Throwable" "suppressedExceptions" "Ljava/util/List;" ∈ gw := gw_t 185 (by decide +kernel) (by decide +kernel)
theorem tw_186 : Cond.lays "java/lang/Throwable" "java/lang/Throwable" "suppressedExceptions" "Ljava/util/List;" ∈ gw := gw_t 186 (by decide +kernel) (by decide +kernel)
theorem tw_187 : Cond.lays "java/lang/ArithmeticException" "java/lang/Throwable" "detailMessage" "Ljava/lang/String;" ∈ gw := gw_t 187 (by decide +kernel) (by decide +kernel)
theorem tw_188 : Cond.lays "java/lang/Throwable" "java/lang/Throwable" "detailMessage" "Ljava/lang/String;" ∈ gw := gw_t 188 (by decide +kernel) (by decide +kernel)
theorem tw_189 : Cond.lays "java/lang/ArithmeticException" "java/lang/Throwable" "backtrace" "Ljava/lang/Object;" ∈ gw := gw_t 189 (by decide +kernel) (by decide +kernel)
theorem tw_190 : Cond.lays "java/lang/Throwable" "java/lang/Throwable" "backtrace" "Ljava/lang/Object;" ∈ gw := gw_t 190 (by decide +kernel) (by decide +kernel)
theorem tw_191 : Cond.fieldLink "java/lang/Throwable" 198 "java/lang/Throwable" "backtrace" "Ljava/lang/Object;" ∈ gw := gw_t 191 (by decide +kernel) (by decide +kernel)
theorem tw_192 : Cond.superclass "java/lang/Throwable" "java/lang/Object" ∈ gw := gw_t 192 (by decide +kernel) (by decide +kernel)
theorem tw_193 : Cond.instanceMethod m_Th_init ∈ gw := gw_t 193 (by decide +kernel) (by decide +kernel)
theorem tw_194 : Cond.code m_Th_init prog_17_method_1_code 1 (none) ∈ gw := gw_t 194 (by decide +kernel) (by decide +kernel)
theorem tw_195 : Cond.methodLink "java/lang/Throwable" 1 m_Ob_init ∈ gw := gw_t 195 (by decide +kernel) (by decide +kernel)
theorem tw_196 : Cond.fieldLink "java/lang/Throwable" 13 "java/lang/Throwable" "UNASSIGNED_STACK" "[Ljava/lang/StackTraceElement;" ∈ gw := gw_t 196 (by decide +kernel) (by decide +kernel)
theorem tw_198 : Cond.fieldLink "java/lang/Throwable" 20 "java/lang/Throwable" "SUPPRESSED_SENTINEL" "Ljava/util/List;" ∈ gw := gw_t 198 (by decide +kernel) (by decide +kernel)
theorem tw_200 : Cond.methodLink "java/lang/Throwable" 27 m_Th_fillInStackTrace ∈ gw := gw_t 200 (by decide +kernel) (by decide +kernel)
theorem tw_201 : Cond.instanceMethod m_Th_fillInStackTrace ∈ gw := gw_t 201 (by decide +kernel) (by decide +kernel)
theorem tw_202 : Cond.sameMethod "java/lang/Throwable" "java/lang/Throwable" "fillInStackTrace" "()Ljava/lang/Throwable;" ∈ gw := gw_t 202 (by decide +kernel) (by decide +kernel)
theorem tw_203 : Cond.selects "java/lang/IllegalArgumentException" m_Th_fillInStackTrace m_Th_fillInStackTrace ∈ gw := gw_t 203 (by decide +kernel) (by decide +kernel)
theorem tw_204 : Cond.codeSync m_Th_fillInStackTrace prog_17_method_18_code 1 (Option.some (FieldType.object "java/lang/Throwable")) ∈ gw := gw_t 204 (by decide +kernel) (by decide +kernel)
theorem tw_205 : Cond.methodLink "java/lang/Throwable" 202 ⟨"java/lang/Throwable", "fillInStackTrace", "(I)Ljava/lang/Throwable;"⟩ ∈ gw := gw_t 205 (by decide +kernel) (by decide +kernel)
theorem tw_207 : Cond.instanceMethod ⟨"java/lang/Throwable", "fillInStackTrace", "(I)Ljava/lang/Throwable;"⟩ ∈ gw := gw_t 207 (by decide +kernel) (by decide +kernel)
theorem tw_208 : Cond.instantiable "java/lang/Throwable" 6 ∈ gw := gw_t 208 (by decide +kernel) (by decide +kernel)
theorem tw_209 : Cond.native ⟨"java/lang/Throwable", "fillInStackTrace", "(I)Ljava/lang/Throwable;"⟩ ∈ gw := gw_t 209 (by decide +kernel) (by decide +kernel)
theorem tw_210 : Cond.methodLink "ExactDigits" 106 m_Ae_init ∈ gw := gw_t 210 (by decide +kernel) (by decide +kernel)
theorem tw_211 : Cond.instanceMethod m_Ae_init ∈ gw := gw_t 211 (by decide +kernel) (by decide +kernel)
theorem tw_212 : Cond.code m_Ae_init prog_8_method_1_code 1 (none) ∈ gw := gw_t 212 (by decide +kernel) (by decide +kernel)
theorem tw_213 : Cond.methodLink "java/lang/ArithmeticException" 1 m_Re_init ∈ gw := gw_t 213 (by decide +kernel) (by decide +kernel)
theorem tw_214 : Cond.instanceMethod m_Re_init ∈ gw := gw_t 214 (by decide +kernel) (by decide +kernel)
theorem tw_215 : Cond.code m_Re_init prog_15_method_1_code 1 (none) ∈ gw := gw_t 215 (by decide +kernel) (by decide +kernel)
theorem tw_216 : Cond.methodLink "java/lang/RuntimeException" 1 m_Ex_init ∈ gw := gw_t 216 (by decide +kernel) (by decide +kernel)
theorem tw_217 : Cond.instanceMethod m_Ex_init ∈ gw := gw_t 217 (by decide +kernel) (by decide +kernel)
theorem tw_218 : Cond.code m_Ex_init prog_10_method_1_code 1 (none) ∈ gw := gw_t 218 (by decide +kernel) (by decide +kernel)
theorem tw_219 : Cond.methodLink "java/lang/Exception" 1 m_Th_init ∈ gw := gw_t 219 (by decide +kernel) (by decide +kernel)
theorem tw_220 : Cond.fieldLink "java/lang/Throwable" 198 "java/lang/Throwable" "backtrace" "Ljava/lang/Object;" ∈ gw := gw_t 220 (by decide +kernel) (by decide +kernel)
theorem tw_221 : Cond.fieldLink "java/lang/Throwable" 7 "java/lang/Throwable" "cause" "Ljava/lang/Throwable;" ∈ gw := gw_t 221 (by decide +kernel) (by decide +kernel)
theorem tw_222 : Cond.fieldLink "java/lang/Throwable" 17 "java/lang/Throwable" "stackTrace" "[Ljava/lang/StackTraceElement;" ∈ gw := gw_t 222 (by decide +kernel) (by decide +kernel)
theorem tw_223 : Cond.fieldLink "java/lang/Throwable" 24 "java/lang/Throwable" "suppressedExceptions" "Ljava/util/List;" ∈ gw := gw_t 223 (by decide +kernel) (by decide +kernel)
theorem tw_224 : Cond.soleField "java/lang/Throwable" "backtrace" ∈ gw := gw_t 224 (by decide +kernel) (by decide +kernel)
theorem tw_225 : Cond.soleField "java/lang/Throwable" "detailMessage" ∈ gw := gw_t 225 (by decide +kernel) (by decide +kernel)
theorem tw_226 : Cond.soleField "java/lang/Throwable" "cause" ∈ gw := gw_t 226 (by decide +kernel) (by decide +kernel)
theorem tw_227 : Cond.soleField "java/lang/Throwable" "stackTrace" ∈ gw := gw_t 227 (by decide +kernel) (by decide +kernel)
theorem tw_228 : Cond.lays "java/lang/ArithmeticException" "java/lang/Throwable" "depth" "I" ∈ gw := gw_t 228 (by decide +kernel) (by decide +kernel)
theorem tw_229 : Cond.soleField "java/lang/Throwable" "depth" ∈ gw := gw_t 229 (by decide +kernel) (by decide +kernel)
theorem tw_230 : Cond.soleField "java/lang/Throwable" "suppressedExceptions" ∈ gw := gw_t 230 (by decide +kernel) (by decide +kernel)
theorem tw_231 : Cond.superclass "java/lang/ArithmeticException" "java/lang/RuntimeException" ∈ gw := gw_t 231 (by decide +kernel) (by decide +kernel)
theorem tw_232 : Cond.methodLink "ExactDigits" 47 m_Ed_giveExact ∈ gw := gw_t 232 (by decide +kernel) (by decide +kernel)
theorem tw_234 : Cond.instanceMethod m_Ed_giveExact ∈ gw := gw_t 234 (by decide +kernel) (by decide +kernel)
theorem tw_235 : Cond.code m_Ed_giveExact prog_1_method_18_code 4 (none) ∈ gw := gw_t 235 (by decide +kernel) (by decide +kernel)
theorem tw_236 : Cond.methodLink "ExactDigits" 124 m_Fo_significand ∈ gw := gw_t 236 (by decide +kernel) (by decide +kernel)
theorem tw_237 : Cond.instanceMethod m_Fo_significand ∈ gw := gw_t 237 (by decide +kernel) (by decide +kernel)
theorem tw_238 : Cond.selects "ExactDigits$Format" m_Fo_significand m_Fo_significand ∈ gw := gw_t 238 (by decide +kernel) (by decide +kernel)
theorem tw_239 : Cond.code m_Fo_significand prog_2_method_5_code 7 (Option.some FieldType.long) ∈ gw := gw_t 239 (by decide +kernel) (by decide +kernel)
theorem tw_240 : Cond.methodLink "ExactDigits" 127 m_Fo_exponent ∈ gw := gw_t 240 (by decide +kernel) (by decide +kernel)
theorem tw_241 : Cond.instanceMethod m_Fo_exponent ∈ gw := gw_t 241 (by decide +kernel) (by decide +kernel)
theorem tw_242 : Cond.selects "ExactDigits$Format" m_Fo_exponent m_Fo_exponent ∈ gw := gw_t 242 (by decide +kernel) (by decide +kernel)
theorem tw_243 : Cond.code m_Fo_exponent prog_2_method_6_code 4 (Option.some FieldType.int) ∈ gw := gw_t 243 (by decide +kernel) (by decide +kernel)
theorem tw_244 : Cond.methodLink "ExactDigitsLaw" 61 m_La_shortest ∈ gw := gw_t 244 (by decide +kernel) (by decide +kernel)
theorem tw_245 : Cond.static m_La_shortest ∈ gw := gw_t 245 (by decide +kernel) (by decide +kernel)
theorem tw_246 : Cond.codeWith m_La_shortest method_4_code 6 (Option.some FieldType.int) [(0, 11, 14, 13)] ∈ gw := gw_t 246 (by decide +kernel) (by decide +kernel)
theorem tw_247 : Cond.methodLink "ExactDigitsLaw" 15 m_Ed_shortest ∈ gw := gw_t 247 (by decide +kernel) (by decide +kernel)
theorem tw_248 : Cond.instanceMethod m_Ed_shortest ∈ gw := gw_t 248 (by decide +kernel) (by decide +kernel)
theorem tw_249 : Cond.selects "ExactDigits" m_Ed_shortest m_Ed_shortest ∈ gw := gw_t 249 (by decide +kernel) (by decide +kernel)
theorem tw_250 : Cond.code m_Ed_shortest prog_1_method_4_code 7 (Option.some FieldType.int) ∈ gw := gw_t 250 (by decide +kernel) (by decide +kernel)
theorem tw_251 : Cond.methodLink "ExactDigits" 51 m_Ed_shorten ∈ gw := gw_t 251 (by decide +kernel) (by decide +kernel)
theorem tw_253 : Cond.instanceMethod m_Ed_shorten ∈ gw := gw_t 253 (by decide +kernel) (by decide +kernel)
theorem tw_254 : Cond.code m_Ed_shorten prog_1_method_23_code 8 (none) ∈ gw := gw_t 254 (by decide +kernel) (by decide +kernel)
theorem tw_255 : Cond.methodLink "ExactDigits" 134 m_Ed_neighbourReadBack ∈ gw := gw_t 255 (by decide +kernel) (by decide +kernel)
theorem tw_257 : Cond.instanceMethod m_Ed_neighbourReadBack ∈ gw := gw_t 257 (by decide +kernel) (by decide +kernel)
theorem tw_258 : Cond.code m_Ed_neighbourReadBack prog_1_method_24_code 11 (Option.some FieldType.long) ∈ gw := gw_t 258 (by decide +kernel) (by decide +kernel)
theorem tw_259 : Cond.methodLink "ExactDigits" 140 m_Ed_firstDigits ∈ gw := gw_t 259 (by decide +kernel) (by decide +kernel)
theorem tw_261 : Cond.instanceMethod m_Ed_firstDigits ∈ gw := gw_t 261 (by decide +kernel) (by decide +kernel)
theorem tw_262 : Cond.code m_Ed_firstDigits prog_1_method_25_code 5 (Option.some FieldType.long) ∈ gw := gw_t 262 (by decide +kernel) (by decide +kernel)
theorem tw_263 : Cond.constantLong "ExactDigits" 152 (10 : Int64) ∈ gw := gw_t 263 (by decide +kernel) (by decide +kernel)
theorem tw_264 : Cond.methodLink "ExactDigits" 144 m_Ed_isNearerAbove ∈ gw := gw_t 264 (by decide +kernel) (by decide +kernel)
theorem tw_266 : Cond.instanceMethod m_Ed_isNearerAbove ∈ gw := gw_t 266 (by decide +kernel) (by decide +kernel)
theorem tw_267 : Cond.code m_Ed_isNearerAbove prog_1_method_26_code 4 (Option.some FieldType.boolean) ∈ gw := gw_t 267 (by decide +kernel) (by decide +kernel)
theorem tw_268 : Cond.methodLink "ExactDigits" 148 m_Ed_readsBack ∈ gw := gw_t 268 (by decide +kernel) (by decide +kernel)
theorem tw_270 : Cond.instanceMethod m_Ed_readsBack ∈ gw := gw_t 270 (by decide +kernel) (by decide +kernel)
theorem tw_271 : Cond.code m_Ed_readsBack prog_1_method_27_code 7 (Option.some FieldType.boolean) ∈ gw := gw_t 271 (by decide +kernel) (by decide +kernel)
theorem tw_272 : Cond.constantLong "ExactDigits" 138 (-1 : Int64) ∈ gw := gw_t 272 (by decide +kernel) (by decide +kernel)
theorem tw_273 : Cond.methodLink "ExactDigitsLaw" 64 m_La_put ∈ gw := gw_t 273 (by decide +kernel) (by decide +kernel)
theorem tw_274 : Cond.static m_La_put ∈ gw := gw_t 274 (by decide +kernel) (by decide +kernel)
theorem tw_275 : Cond.codeWith m_La_put method_5_code 5 (Option.some FieldType.int) [(0, 10, 13, 22)] ∈ gw := gw_t 275 (by decide +kernel) (by decide +kernel)
theorem tw_276 : Cond.classLink "ExactDigitsLaw" 22 "java/lang/IllegalArgumentException" ∈ gw := gw_t 276 (by decide +kernel) (by decide +kernel)
theorem tw_277 : Cond.methodLink "ExactDigitsLaw" 18 m_Ed_put ∈ gw := gw_t 277 (by decide +kernel) (by decide +kernel)
theorem tw_278 : Cond.instanceMethod m_Ed_put ∈ gw := gw_t 278 (by decide +kernel) (by decide +kernel)
theorem tw_279 : Cond.selects "ExactDigits" m_Ed_put m_Ed_put ∈ gw := gw_t 279 (by decide +kernel) (by decide +kernel)
theorem tw_280 : Cond.code m_Ed_put prog_1_method_5_code 4 (Option.some FieldType.int) ∈ gw := gw_t 280 (by decide +kernel) (by decide +kernel)
theorem tw_281 : Cond.methodLink "ExactDigits" 54 m_Ed_isBeyond ∈ gw := gw_t 281 (by decide +kernel) (by decide +kernel)
theorem tw_282 : Cond.static m_Ed_isBeyond ∈ gw := gw_t 282 (by decide +kernel) (by decide +kernel)
theorem tw_283 : Cond.code m_Ed_isBeyond prog_1_method_16_code 2 (Option.some FieldType.boolean) ∈ gw := gw_t 283 (by decide +kernel) (by decide +kernel)
theorem tw_284 : Cond.classLink "ExactDigits" 58 "java/lang/IllegalArgumentException" ∈ gw := gw_t 284 (by decide +kernel) (by decide +kernel)
theorem tw_285 : Cond.instantiable "java/lang/IllegalArgumentException" 6 ∈ gw := gw_t 285 (by decide +kernel) (by decide +kernel)
theorem tw_287 : Cond.selects "java/lang/IllegalArgumentException" ⟨"java/lang/Throwable", "fillInStackTrace", "(I)Ljava/lang/Throwable;"⟩ ⟨"java/lang/Throwable", "fillInStackTrace", "(I)Ljava/lang/Throwable;"⟩ ∈ gw := gw_t 287 (by decide +kernel) (by decide +kernel)
theorem tw_288 : Cond.lays "java/lang/IllegalArgumentException" "java/lang/Throwable" "cause" "Ljava/lang/Throwable;" ∈ gw := gw_t 288 (by decide +kernel) (by decide +kernel)
theorem tw_289 : Cond.lays "java/lang/IllegalArgumentException" "java/lang/Throwable" "stackTrace" "[Ljava/lang/StackTraceElement;" ∈ gw := gw_t 289 (by decide +kernel) (by decide +kernel)
theorem tw_290 : Cond.lays "java/lang/IllegalArgumentException" "java/lang/Throwable" "suppressedExceptions" "Ljava/util/List;" ∈ gw := gw_t 290 (by decide +kernel) (by decide +kernel)
theorem tw_291 : Cond.lays "java/lang/IllegalArgumentException" "java/lang/Throwable" "detailMessage" "Ljava/lang/String;" ∈ gw := gw_t 291 (by decide +kernel) (by decide +kernel)
theorem tw_292 : Cond.lays "java/lang/IllegalArgumentException" "java/lang/Throwable" "backtrace" "Ljava/lang/Object;" ∈ gw := gw_t 292 (by decide +kernel) (by decide +kernel)
theorem tw_293 : Cond.methodLink "ExactDigits" 60 m_Ia_init ∈ gw := gw_t 293 (by decide +kernel) (by decide +kernel)
theorem tw_294 : Cond.instanceMethod m_Ia_init ∈ gw := gw_t 294 (by decide +kernel) (by decide +kernel)
theorem tw_295 : Cond.code m_Ia_init prog_11_method_1_code 1 (none) ∈ gw := gw_t 295 (by decide +kernel) (by decide +kernel)
theorem tw_296 : Cond.methodLink "java/lang/IllegalArgumentException" 1 m_Re_init ∈ gw := gw_t 296 (by decide +kernel) (by decide +kernel)
theorem tw_297 : Cond.lays "java/lang/IllegalArgumentException" "java/lang/Throwable" "depth" "I" ∈ gw := gw_t 297 (by decide +kernel) (by decide +kernel)
theorem tw_298 : Cond.superclass "java/lang/IllegalArgumentException" "java/lang/RuntimeException" ∈ gw := gw_t 298 (by decide +kernel) (by decide +kernel)
theorem tw_299 : Cond.methodLink "ExactDigits" 61 m_Ed_append ∈ gw := gw_t 299 (by decide +kernel) (by decide +kernel)
theorem tw_301 : Cond.instanceMethod m_Ed_append ∈ gw := gw_t 301 (by decide +kernel) (by decide +kernel)
theorem tw_302 : Cond.code m_Ed_append prog_1_method_20_code 5 (none) ∈ gw := gw_t 302 (by decide +kernel) (by decide +kernel)
theorem tw_303 : Cond.methodLink "ExactDigitsLaw" 68 m_La_shift ∈ gw := gw_t 303 (by decide +kernel) (by decide +kernel)
theorem tw_304 : Cond.static m_La_shift ∈ gw := gw_t 304 (by decide +kernel) (by decide +kernel)
theorem tw_305 : Cond.codeWith m_La_shift method_6_code 4 (Option.some FieldType.int) [(0, 9, 12, 22)] ∈ gw := gw_t 305 (by decide +kernel) (by decide +kernel)
theorem tw_306 : Cond.methodLink "ExactDigitsLaw" 24 m_Ed_shift ∈ gw := gw_t 306 (by decide +kernel) (by decide +kernel)
theorem tw_307 : Cond.instanceMethod m_Ed_shift ∈ gw := gw_t 307 (by decide +kernel) (by decide +kernel)
theorem tw_308 : Cond.selects "ExactDigits" m_Ed_shift m_Ed_shift ∈ gw := gw_t 308 (by decide +kernel) (by decide +kernel)
theorem tw_309 : Cond.code m_Ed_shift prog_1_method_6_code 4 (Option.some FieldType.int) ∈ gw := gw_t 309 (by decide +kernel) (by decide +kernel)
theorem tw_310 : Cond.methodLink "ExactDigitsLaw" 72 m_La_move ∈ gw := gw_t 310 (by decide +kernel) (by decide +kernel)
theorem tw_311 : Cond.static m_La_move ∈ gw := gw_t 311 (by decide +kernel) (by decide +kernel)
theorem tw_312 : Cond.codeWith m_La_move method_7_code 4 (Option.some FieldType.int) [(0, 9, 12, 22)] ∈ gw := gw_t 312 (by decide +kernel) (by decide +kernel)
theorem tw_313 : Cond.methodLink "ExactDigitsLaw" 28 m_Ed_move ∈ gw := gw_t 313 (by decide +kernel) (by decide +kernel)
theorem tw_314 : Cond.instanceMethod m_Ed_move ∈ gw := gw_t 314 (by decide +kernel) (by decide +kernel)
theorem tw_315 : Cond.selects "ExactDigits" m_Ed_move m_Ed_move ∈ gw := gw_t 315 (by decide +kernel) (by decide +kernel)
theorem tw_316 : Cond.code m_Ed_move prog_1_method_7_code 3 (Option.some FieldType.int) ∈ gw := gw_t 316 (by decide +kernel) (by decide +kernel)
theorem tw_317 : Cond.methodLink "ExactDigitsLaw" 75 m_La_round ∈ gw := gw_t 317 (by decide +kernel) (by decide +kernel)
theorem tw_318 : Cond.static m_La_round ∈ gw := gw_t 318 (by decide +kernel) (by decide +kernel)
theorem tw_319 : Cond.codeWith m_La_round method_8_code 4 (Option.some FieldType.int) [(0, 9, 12, 22)] ∈ gw := gw_t 319 (by decide +kernel) (by decide +kernel)
theorem tw_320 : Cond.methodLink "ExactDigitsLaw" 31 m_Ed_round ∈ gw := gw_t 320 (by decide +kernel) (by decide +kernel)
theorem tw_321 : Cond.instanceMethod m_Ed_round ∈ gw := gw_t 321 (by decide +kernel) (by decide +kernel)
theorem tw_322 : Cond.selects "ExactDigits" m_Ed_round m_Ed_round ∈ gw := gw_t 322 (by decide +kernel) (by decide +kernel)
theorem tw_323 : Cond.code m_Ed_round prog_1_method_8_code 3 (Option.some FieldType.int) ∈ gw := gw_t 323 (by decide +kernel) (by decide +kernel)
theorem tw_324 : Cond.methodLink "ExactDigits" 73 m_Ed_keepFirstAndOneMore ∈ gw := gw_t 324 (by decide +kernel) (by decide +kernel)
theorem tw_326 : Cond.instanceMethod m_Ed_keepFirstAndOneMore ∈ gw := gw_t 326 (by decide +kernel) (by decide +kernel)
theorem tw_327 : Cond.code m_Ed_keepFirstAndOneMore prog_1_method_22_code 3 (none) ∈ gw := gw_t 327 (by decide +kernel) (by decide +kernel)
theorem tw_328 : Cond.methodLink "ExactDigits" 76 m_Ed_keepFirst ∈ gw := gw_t 328 (by decide +kernel) (by decide +kernel)
theorem tw_330 : Cond.instanceMethod m_Ed_keepFirst ∈ gw := gw_t 330 (by decide +kernel) (by decide +kernel)
theorem tw_331 : Cond.code m_Ed_keepFirst prog_1_method_21_code 2 (none) ∈ gw := gw_t 331 (by decide +kernel) (by decide +kernel)
theorem tw_332 : Cond.methodLink "ExactDigits" 131 m_Ma_max ∈ gw := gw_t 332 (by decide +kernel) (by decide +kernel)
theorem tw_333 : Cond.methodLink "ExactDigitsLaw" 78 m_La_cut ∈ gw := gw_t 333 (by decide +kernel) (by decide +kernel)
theorem tw_334 : Cond.static m_La_cut ∈ gw := gw_t 334 (by decide +kernel) (by decide +kernel)
theorem tw_335 : Cond.codeWith m_La_cut method_9_code 4 (Option.some FieldType.int) [(0, 9, 12, 22)] ∈ gw := gw_t 335 (by decide +kernel) (by decide +kernel)
theorem tw_336 : Cond.methodLink "ExactDigitsLaw" 34 m_Ed_cut ∈ gw := gw_t 336 (by decide +kernel) (by decide +kernel)
theorem tw_337 : Cond.instanceMethod m_Ed_cut ∈ gw := gw_t 337 (by decide +kernel) (by decide +kernel)
theorem tw_338 : Cond.selects "ExactDigits" m_Ed_cut m_Ed_cut ∈ gw := gw_t 338 (by decide +kernel) (by decide +kernel)
theorem tw_339 : Cond.code m_Ed_cut prog_1_method_9_code 2 (Option.some FieldType.int) ∈ gw := gw_t 339 (by decide +kernel) (by decide +kernel)
theorem tw_340 : Cond.methodLink "ExactDigitsLaw" 85 m_La_told ∈ gw := gw_t 340 (by decide +kernel) (by decide +kernel)
theorem tw_341 : Cond.static m_La_told ∈ gw := gw_t 341 (by decide +kernel) (by decide +kernel)
theorem tw_342 : Cond.codeWith m_La_told method_10_code 4 (Option.some FieldType.int) [(0, 9, 12, 22)] ∈ gw := gw_t 342 (by decide +kernel) (by decide +kernel)
theorem tw_343 : Cond.methodLink "ExactDigitsLaw" 37 m_Ed_told ∈ gw := gw_t 343 (by decide +kernel) (by decide +kernel)
theorem tw_344 : Cond.instanceMethod m_Ed_told ∈ gw := gw_t 344 (by decide +kernel) (by decide +kernel)
theorem tw_345 : Cond.selects "ExactDigits" m_Ed_told m_Ed_told ∈ gw := gw_t 345 (by decide +kernel) (by decide +kernel)
theorem tw_346 : Cond.code m_Ed_told prog_1_method_11_code 2 (Option.some FieldType.int) ∈ gw := gw_t 346 (by decide +kernel) (by decide +kernel)
theorem tw_347 : Cond.classLink "ExactDigitsLaw" 41 "ExactDigitsModel" ∈ gw := gw_t 347 (by decide +kernel) (by decide +kernel)
theorem tw_348 : Cond.instantiable "ExactDigitsModel" 10 ∈ gw := gw_t 348 (by decide +kernel) (by decide +kernel)
theorem tw_349 : Cond.methodLink "ExactDigitsLaw" 43 m_Mo_init ∈ gw := gw_t 349 (by decide +kernel) (by decide +kernel)
theorem tw_350 : Cond.instanceMethod m_Mo_init ∈ gw := gw_t 350 (by decide +kernel) (by decide +kernel)
theorem tw_351 : Cond.code m_Mo_init prog_5_method_1_code 1 (none) ∈ gw := gw_t 351 (by decide +kernel) (by decide +kernel)
theorem tw_352 : Cond.methodLink "ExactDigitsModel" 1 m_Ob_init ∈ gw := gw_t 352 (by decide +kernel) (by decide +kernel)
theorem tw_353 : Cond.classLink "ExactDigitsModel" 7 "ExactDigitsModel$Row" ∈ gw := gw_t 353 (by decide +kernel) (by decide +kernel)
theorem tw_354 : Cond.instantiable "ExactDigitsModel$Row" 3 ∈ gw := gw_t 354 (by decide +kernel) (by decide +kernel)
theorem tw_356 : Cond.instanceMethod m_Ro_init ∈ gw := gw_t 356 (by decide +kernel) (by decide +kernel)
theorem tw_357 : Cond.code m_Ro_init prog_7_method_1_code 1 (none) ∈ gw := gw_t 357 (by decide +kernel) (by decide +kernel)
theorem tw_358 : Cond.methodLink "ExactDigitsModel$Row" 3 m_Ob_init ∈ gw := gw_t 358 (by decide +kernel) (by decide +kernel)
theorem tw_359 : Cond.fieldLink "ExactDigitsModel$Row" 9 "ExactDigitsModel$Row" "d" "[B" ∈ gw := gw_t 359 (by decide +kernel) (by decide +kernel)
theorem tw_360 : Cond.fieldLink "ExactDigitsModel" 90 "ExactDigitsModel$Row" "d" "[B" ∈ gw := gw_t 360 (by decide +kernel) (by decide +kernel)
theorem tw_361 : Cond.fieldLink "ExactDigitsModel$Row" 15 "ExactDigitsModel$Row" "n" "I" ∈ gw := gw_t 361 (by decide +kernel) (by decide +kernel)
theorem tw_362 : Cond.fieldLink "ExactDigitsModel" 36 "ExactDigitsModel$Row" "n" "I" ∈ gw := gw_t 362 (by decide +kernel) (by decide +kernel)
theorem tw_363 : Cond.fieldLink "ExactDigitsModel$Row" 19 "ExactDigitsModel$Row" "point" "I" ∈ gw := gw_t 363 (by decide +kernel) (by decide +kernel)
theorem tw_364 : Cond.fieldLink "ExactDigitsModel" 101 "ExactDigitsModel$Row" "point" "I" ∈ gw := gw_t 364 (by decide +kernel) (by decide +kernel)
theorem tw_365 : Cond.laysFinal "ExactDigitsModel$Row" "ExactDigitsModel$Row" "d" "[B" ∈ gw := gw_t 365 (by decide +kernel) (by decide +kernel)
theorem tw_366 : Cond.soleField "ExactDigitsModel$Row" "d" ∈ gw := gw_t 366 (by decide +kernel) (by decide +kernel)
theorem tw_367 : Cond.lays "ExactDigitsModel$Row" "ExactDigitsModel$Row" "n" "I" ∈ gw := gw_t 367 (by decide +kernel) (by decide +kernel)
theorem tw_368 : Cond.soleField "ExactDigitsModel$Row" "n" ∈ gw := gw_t 368 (by decide +kernel) (by decide +kernel)
theorem tw_369 : Cond.lays "ExactDigitsModel$Row" "ExactDigitsModel$Row" "point" "I" ∈ gw := gw_t 369 (by decide +kernel) (by decide +kernel)
theorem tw_370 : Cond.soleField "ExactDigitsModel$Row" "point" ∈ gw := gw_t 370 (by decide +kernel) (by decide +kernel)
theorem tw_371 : Cond.superclass "ExactDigitsModel$Row" "java/lang/Object" ∈ gw := gw_t 371 (by decide +kernel) (by decide +kernel)
theorem tw_372 : Cond.classLink "ExactDigitsModel" 25 "ExactDigitsModel$Decimal" ∈ gw := gw_t 372 (by decide +kernel) (by decide +kernel)
theorem tw_373 : Cond.instantiable "ExactDigitsModel$Decimal" 3 ∈ gw := gw_t 373 (by decide +kernel) (by decide +kernel)
theorem tw_375 : Cond.instanceMethod m_De_init ∈ gw := gw_t 375 (by decide +kernel) (by decide +kernel)
theorem tw_376 : Cond.code m_De_init prog_6_method_1_code 1 (none) ∈ gw := gw_t 376 (by decide +kernel) (by decide +kernel)
theorem tw_377 : Cond.methodLink "ExactDigitsModel$Decimal" 3 m_Ob_init ∈ gw := gw_t 377 (by decide +kernel) (by decide +kernel)
theorem tw_378 : Cond.fieldLink "ExactDigitsModel$Decimal" 9 "ExactDigitsModel$Decimal" "w" "[I" ∈ gw := gw_t 378 (by decide +kernel) (by decide +kernel)
theorem tw_379 : Cond.fieldLink "ExactDigitsModel" 153 "ExactDigitsModel$Decimal" "w" "[I" ∈ gw := gw_t 379 (by decide +kernel) (by decide +kernel)
theorem tw_380 : Cond.fieldLink "ExactDigitsModel$Decimal" 15 "ExactDigitsModel$Decimal" "from" "I" ∈ gw := gw_t 380 (by decide +kernel) (by decide +kernel)
theorem tw_381 : Cond.fieldLink "ExactDigitsModel" 123 "ExactDigitsModel$Decimal" "from" "I" ∈ gw := gw_t 381 (by decide +kernel) (by decide +kernel)
theorem tw_382 : Cond.fieldLink "ExactDigitsModel$Decimal" 19 "ExactDigitsModel$Decimal" "to" "I" ∈ gw := gw_t 382 (by decide +kernel) (by decide +kernel)
theorem tw_383 : Cond.laysFinal "ExactDigitsModel$Decimal" "ExactDigitsModel$Decimal" "w" "[I" ∈ gw := gw_t 383 (by decide +kernel) (by decide +kernel)
theorem tw_384 : Cond.soleField "ExactDigitsModel$Decimal" "w" ∈ gw := gw_t 384 (by decide +kernel) (by decide +kernel)
theorem tw_385 : Cond.lays "ExactDigitsModel$Decimal" "ExactDigitsModel$Decimal" "from" "I" ∈ gw := gw_t 385 (by decide +kernel) (by decide +kernel)
theorem tw_386 : Cond.soleField "ExactDigitsModel$Decimal" "from" ∈ gw := gw_t 386 (by decide +kernel) (by decide +kernel)
theorem tw_387 : Cond.lays "ExactDigitsModel$Decimal" "ExactDigitsModel$Decimal" "to" "I" ∈ gw := gw_t 387 (by decide +kernel) (by decide +kernel)
theorem tw_388 : Cond.soleField "ExactDigitsModel$Decimal" "to" ∈ gw := gw_t 388 (by decide +kernel) (by decide +kernel)
theorem tw_389 : Cond.superclass "ExactDigitsModel$Decimal" "java/lang/Object" ∈ gw := gw_t 389 (by decide +kernel) (by decide +kernel)
theorem tw_390 : Cond.fieldLink "ExactDigitsModel" 10 "ExactDigitsModel" "number" "LExactDigitsModel$Row;" ∈ gw := gw_t 390 (by decide +kernel) (by decide +kernel)
theorem tw_391 : Cond.fieldLink "ExactDigitsModel" 16 "ExactDigitsModel" "under" "LExactDigitsModel$Row;" ∈ gw := gw_t 391 (by decide +kernel) (by decide +kernel)
theorem tw_392 : Cond.fieldLink "ExactDigitsModel" 19 "ExactDigitsModel" "over" "LExactDigitsModel$Row;" ∈ gw := gw_t 392 (by decide +kernel) (by decide +kernel)
theorem tw_393 : Cond.fieldLink "ExactDigitsModel" 22 "ExactDigitsModel" "exact" "LExactDigitsModel$Row;" ∈ gw := gw_t 393 (by decide +kernel) (by decide +kernel)
theorem tw_394 : Cond.fieldLink "ExactDigitsModel" 28 "ExactDigitsModel" "decimal" "LExactDigitsModel$Decimal;" ∈ gw := gw_t 394 (by decide +kernel) (by decide +kernel)
theorem tw_395 : Cond.fieldLink "ExactDigitsModel" 39 "ExactDigitsModel" "isLess" "Z" ∈ gw := gw_t 395 (by decide +kernel) (by decide +kernel)
theorem tw_396 : Cond.fieldLink "ExactDigitsModel" 32 "ExactDigitsModel" "thrown" "I" ∈ gw := gw_t 396 (by decide +kernel) (by decide +kernel)
theorem tw_397 : Cond.fieldLink "ExactDigitsModel" 50 "ExactDigitsModel" "mantissa" "J" ∈ gw := gw_t 397 (by decide +kernel) (by decide +kernel)
theorem tw_398 : Cond.fieldLink "ExactDigitsModel" 60 "ExactDigitsModel" "power" "I" ∈ gw := gw_t 398 (by decide +kernel) (by decide +kernel)
theorem tw_399 : Cond.fieldLink "ExactDigitsModel" 63 "ExactDigitsModel" "isCloser" "Z" ∈ gw := gw_t 399 (by decide +kernel) (by decide +kernel)
theorem tw_400 : Cond.laysFinal "ExactDigitsModel" "ExactDigitsModel" "number" "LExactDigitsModel$Row;" ∈ gw := gw_t 400 (by decide +kernel) (by decide +kernel)
theorem tw_401 : Cond.soleField "ExactDigitsModel" "number" ∈ gw := gw_t 401 (by decide +kernel) (by decide +kernel)
theorem tw_402 : Cond.laysFinal "ExactDigitsModel" "ExactDigitsModel" "under" "LExactDigitsModel$Row;" ∈ gw := gw_t 402 (by decide +kernel) (by decide +kernel)
theorem tw_403 : Cond.soleField "ExactDigitsModel" "under" ∈ gw := gw_t 403 (by decide +kernel) (by decide +kernel)
theorem tw_404 : Cond.laysFinal "ExactDigitsModel" "ExactDigitsModel" "over" "LExactDigitsModel$Row;" ∈ gw := gw_t 404 (by decide +kernel) (by decide +kernel)
theorem tw_405 : Cond.soleField "ExactDigitsModel" "over" ∈ gw := gw_t 405 (by decide +kernel) (by decide +kernel)
theorem tw_406 : Cond.laysFinal "ExactDigitsModel" "ExactDigitsModel" "exact" "LExactDigitsModel$Row;" ∈ gw := gw_t 406 (by decide +kernel) (by decide +kernel)
theorem tw_407 : Cond.soleField "ExactDigitsModel" "exact" ∈ gw := gw_t 407 (by decide +kernel) (by decide +kernel)
theorem tw_408 : Cond.laysFinal "ExactDigitsModel" "ExactDigitsModel" "decimal" "LExactDigitsModel$Decimal;" ∈ gw := gw_t 408 (by decide +kernel) (by decide +kernel)
theorem tw_409 : Cond.soleField "ExactDigitsModel" "decimal" ∈ gw := gw_t 409 (by decide +kernel) (by decide +kernel)
theorem tw_410 : Cond.lays "ExactDigitsModel" "ExactDigitsModel" "isLess" "Z" ∈ gw := gw_t 410 (by decide +kernel) (by decide +kernel)
theorem tw_411 : Cond.soleField "ExactDigitsModel" "isLess" ∈ gw := gw_t 411 (by decide +kernel) (by decide +kernel)
theorem tw_412 : Cond.lays "ExactDigitsModel" "ExactDigitsModel" "thrown" "I" ∈ gw := gw_t 412 (by decide +kernel) (by decide +kernel)
theorem tw_413 : Cond.soleField "ExactDigitsModel" "thrown" ∈ gw := gw_t 413 (by decide +kernel) (by decide +kernel)
theorem tw_414 : Cond.lays "ExactDigitsModel" "ExactDigitsModel" "mantissa" "J" ∈ gw := gw_t 414 (by decide +kernel) (by decide +kernel)
theorem tw_415 : Cond.soleField "ExactDigitsModel" "mantissa" ∈ gw := gw_t 415 (by decide +kernel) (by decide +kernel)
theorem tw_416 : Cond.lays "ExactDigitsModel" "ExactDigitsModel" "power" "I" ∈ gw := gw_t 416 (by decide +kernel) (by decide +kernel)
theorem tw_417 : Cond.soleField "ExactDigitsModel" "power" ∈ gw := gw_t 417 (by decide +kernel) (by decide +kernel)
theorem tw_418 : Cond.lays "ExactDigitsModel" "ExactDigitsModel" "isCloser" "Z" ∈ gw := gw_t 418 (by decide +kernel) (by decide +kernel)
theorem tw_419 : Cond.soleField "ExactDigitsModel" "isCloser" ∈ gw := gw_t 419 (by decide +kernel) (by decide +kernel)
theorem tw_420 : Cond.superclass "ExactDigitsModel" "java/lang/Object" ∈ gw := gw_t 420 (by decide +kernel) (by decide +kernel)
theorem tw_421 : Cond.methodLink "ExactDigitsLaw" 57 m_Mo_thrown ∈ gw := gw_t 421 (by decide +kernel) (by decide +kernel)
theorem tw_422 : Cond.instanceMethod m_Mo_thrown ∈ gw := gw_t 422 (by decide +kernel) (by decide +kernel)
theorem tw_423 : Cond.selects "ExactDigitsModel" m_Mo_thrown m_Mo_thrown ∈ gw := gw_t 423 (by decide +kernel) (by decide +kernel)
theorem tw_424 : Cond.code m_Mo_thrown prog_5_method_2_code 1 (Option.some FieldType.int) ∈ gw := gw_t 424 (by decide +kernel) (by decide +kernel)
theorem tw_425 : Cond.methodLink "ExactDigitsLaw" 50 m_Mo_whole ∈ gw := gw_t 425 (by decide +kernel) (by decide +kernel)
theorem tw_426 : Cond.instanceMethod m_Mo_whole ∈ gw := gw_t 426 (by decide +kernel) (by decide +kernel)
theorem tw_427 : Cond.selects "ExactDigitsModel" m_Mo_whole m_Mo_whole ∈ gw := gw_t 427 (by decide +kernel) (by decide +kernel)
theorem tw_428 : Cond.code m_Mo_whole prog_5_method_4_code 3 (Option.some FieldType.int) ∈ gw := gw_t 428 (by decide +kernel) (by decide +kernel)
theorem tw_429 : Cond.methodLink "ExactDigitsModel" 46 m_Ro_set ∈ gw := gw_t 429 (by decide +kernel) (by decide +kernel)
theorem tw_430 : Cond.instanceMethod m_Ro_set ∈ gw := gw_t 430 (by decide +kernel) (by decide +kernel)
theorem tw_431 : Cond.selects "ExactDigitsModel$Row" m_Ro_set m_Ro_set ∈ gw := gw_t 431 (by decide +kernel) (by decide +kernel)
theorem tw_432 : Cond.code m_Ro_set prog_7_method_2_code 7 (none) ∈ gw := gw_t 432 (by decide +kernel) (by decide +kernel)
theorem tw_433 : Cond.constantLong "ExactDigitsModel$Row" 22 (10 : Int64) ∈ gw := gw_t 433 (by decide +kernel) (by decide +kernel)
theorem tw_434 : Cond.methodLink "ExactDigitsModel$Row" 24 m_Lo_divideUnsigned ∈ gw := gw_t 434 (by decide +kernel) (by decide +kernel)
theorem tw_435 : Cond.static m_Lo_divideUnsigned ∈ gw := gw_t 435 (by decide +kernel) (by decide +kernel)
theorem tw_436 : Cond.code m_Lo_divideUnsigned prog_13_method_44_code 8 (Option.some FieldType.long) ∈ gw := gw_t 436 (by decide +kernel) (by decide +kernel)
theorem tw_437 : Cond.constantLong "java/lang/Long" 306 (-1 : Int64) ∈ gw := gw_t 437 (by decide +kernel) (by decide +kernel)
theorem tw_438 : Cond.methodLink "ExactDigitsModel$Row" 30 ⟨"java/lang/System", "arraycopy", "(Ljava/lang/Object;ILjava/lang/Object;II)V"⟩ ∈ gw := gw_t 438 (by decide +kernel) (by decide +kernel)
theorem tw_439 : Cond.static ⟨"java/lang/System", "arraycopy", "(Ljava/lang/Object;ILjava/lang/Object;II)V"⟩ ∈ gw := gw_t 439 (by decide +kernel) (by decide +kernel)
theorem tw_440 : Cond.native ⟨"java/lang/System", "arraycopy", "(Ljava/lang/Object;ILjava/lang/Object;II)V"⟩ ∈ gw := gw_t 440 (by decide +kernel) (by decide +kernel)
theorem tw_441 : Cond.methodLink "ExactDigitsModel$Row" 36 m_Ro_trim ∈ gw := gw_t 441 (by decide +kernel) (by decide +kernel)
theorem tw_442 : Cond.instanceMethod m_Ro_trim ∈ gw := gw_t 442 (by decide +kernel) (by decide +kernel)
theorem tw_443 : Cond.selects "ExactDigitsModel$Row" m_Ro_trim m_Ro_trim ∈ gw := gw_t 443 (by decide +kernel) (by decide +kernel)
theorem tw_444 : Cond.code m_Ro_trim prog_7_method_3_code 2 (none) ∈ gw := gw_t 444 (by decide +kernel) (by decide +kernel)
theorem tw_445 : Cond.methodLink "ExactDigitsLaw" 56 m_Mo_real ∈ gw := gw_t 445 (by decide +kernel) (by decide +kernel)
theorem tw_446 : Cond.instanceMethod m_Mo_real ∈ gw := gw_t 446 (by decide +kernel) (by decide +kernel)
theorem tw_447 : Cond.selects "ExactDigitsModel" m_Mo_real m_Mo_real ∈ gw := gw_t 447 (by decide +kernel) (by decide +kernel)
theorem tw_448 : Cond.code m_Mo_real prog_5_method_6_code 4 (Option.some FieldType.int) ∈ gw := gw_t 448 (by decide +kernel) (by decide +kernel)
theorem tw_449 : Cond.methodLink "ExactDigitsModel" 66 m_Mo_isNumber ∈ gw := gw_t 449 (by decide +kernel) (by decide +kernel)
theorem tw_451 : Cond.instanceMethod m_Mo_isNumber ∈ gw := gw_t 451 (by decide +kernel) (by decide +kernel)
theorem tw_452 : Cond.code m_Mo_isNumber prog_5_method_5_code 8 (Option.some FieldType.boolean) ∈ gw := gw_t 452 (by decide +kernel) (by decide +kernel)
theorem tw_453 : Cond.methodLink "ExactDigitsModel" 54 m_Ma_max ∈ gw := gw_t 453 (by decide +kernel) (by decide +kernel)
theorem tw_454 : Cond.methodLink "ExactDigitsModel" 70 m_Ro_shift ∈ gw := gw_t 454 (by decide +kernel) (by decide +kernel)
theorem tw_455 : Cond.instanceMethod m_Ro_shift ∈ gw := gw_t 455 (by decide +kernel) (by decide +kernel)
theorem tw_456 : Cond.selects "ExactDigitsModel$Row" m_Ro_shift m_Ro_shift ∈ gw := gw_t 456 (by decide +kernel) (by decide +kernel)
theorem tw_457 : Cond.code m_Ro_shift prog_7_method_5_code 3 (none) ∈ gw := gw_t 457 (by decide +kernel) (by decide +kernel)
theorem tw_458 : Cond.methodLink "ExactDigitsModel$Row" 39 m_Ro_times ∈ gw := gw_t 458 (by decide +kernel) (by decide +kernel)
theorem tw_459 : Cond.instanceMethod m_Ro_times ∈ gw := gw_t 459 (by decide +kernel) (by decide +kernel)
theorem tw_460 : Cond.selects "ExactDigitsModel$Row" m_Ro_times m_Ro_times ∈ gw := gw_t 460 (by decide +kernel) (by decide +kernel)
theorem tw_461 : Cond.code m_Ro_times prog_7_method_4_code 7 (none) ∈ gw := gw_t 461 (by decide +kernel) (by decide +kernel)
theorem tw_462 : Cond.methodLink "ExactDigitsLaw" 63 m_Mo_shortest ∈ gw := gw_t 462 (by decide +kernel) (by decide +kernel)
theorem tw_463 : Cond.instanceMethod m_Mo_shortest ∈ gw := gw_t 463 (by decide +kernel) (by decide +kernel)
theorem tw_464 : Cond.selects "ExactDigitsModel" m_Mo_shortest m_Mo_shortest ∈ gw := gw_t 464 (by decide +kernel) (by decide +kernel)
theorem tw_465 : Cond.code m_Mo_shortest prog_5_method_7_code 11 (Option.some FieldType.int) ∈ gw := gw_t 465 (by decide +kernel) (by decide +kernel)
theorem tw_466 : Cond.methodLink "ExactDigitsModel" 74 m_Ro_copy ∈ gw := gw_t 466 (by decide +kernel) (by decide +kernel)
theorem tw_467 : Cond.instanceMethod m_Ro_copy ∈ gw := gw_t 467 (by decide +kernel) (by decide +kernel)
theorem tw_468 : Cond.selects "ExactDigitsModel$Row" m_Ro_copy m_Ro_copy ∈ gw := gw_t 468 (by decide +kernel) (by decide +kernel)
theorem tw_469 : Cond.code m_Ro_copy prog_7_method_6_code 2 (none) ∈ gw := gw_t 469 (by decide +kernel) (by decide +kernel)
theorem tw_470 : Cond.constantLong "ExactDigitsModel" 78 (2 : Int64) ∈ gw := gw_t 470 (by decide +kernel) (by decide +kernel)
theorem tw_471 : Cond.constantLong "ExactDigitsModel" 80 (4 : Int64) ∈ gw := gw_t 471 (by decide +kernel) (by decide +kernel)
theorem tw_472 : Cond.methodLink "ExactDigitsModel" 82 m_Mo_first ∈ gw := gw_t 472 (by decide +kernel) (by decide +kernel)
theorem tw_474 : Cond.instanceMethod m_Mo_first ∈ gw := gw_t 474 (by decide +kernel) (by decide +kernel)
theorem tw_475 : Cond.code m_Mo_first prog_5_method_8_code 3 (none) ∈ gw := gw_t 475 (by decide +kernel) (by decide +kernel)
theorem tw_476 : Cond.methodLink "ExactDigitsModel" 94 m_Ro_raise ∈ gw := gw_t 476 (by decide +kernel) (by decide +kernel)
theorem tw_477 : Cond.instanceMethod m_Ro_raise ∈ gw := gw_t 477 (by decide +kernel) (by decide +kernel)
theorem tw_478 : Cond.selects "ExactDigitsModel$Row" m_Ro_raise m_Ro_raise ∈ gw := gw_t 478 (by decide +kernel) (by decide +kernel)
theorem tw_479 : Cond.code m_Ro_raise prog_7_method_9_code 2 (none) ∈ gw := gw_t 479 (by decide +kernel) (by decide +kernel)
theorem tw_480 : Cond.methodLink "ExactDigitsModel" 43 m_Ro_trim ∈ gw := gw_t 480 (by decide +kernel) (by decide +kernel)
theorem tw_481 : Cond.methodLink "ExactDigitsModel" 86 m_Mo_isIn ∈ gw := gw_t 481 (by decide +kernel) (by decide +kernel)
theorem tw_483 : Cond.instanceMethod m_Mo_isIn ∈ gw := gw_t 483 (by decide +kernel) (by decide +kernel)
theorem tw_484 : Cond.code m_Mo_isIn prog_5_method_9_code 4 (Option.some FieldType.boolean) ∈ gw := gw_t 484 (by decide +kernel) (by decide +kernel)
theorem tw_485 : Cond.methodLink "ExactDigitsModel" 97 m_Ro_compare ∈ gw := gw_t 485 (by decide +kernel) (by decide +kernel)
theorem tw_486 : Cond.instanceMethod m_Ro_compare ∈ gw := gw_t 486 (by decide +kernel) (by decide +kernel)
theorem tw_487 : Cond.selects "ExactDigitsModel$Row" m_Ro_compare m_Ro_compare ∈ gw := gw_t 487 (by decide +kernel) (by decide +kernel)
theorem tw_488 : Cond.code m_Ro_compare prog_7_method_8_code 4 (Option.some FieldType.int) ∈ gw := gw_t 488 (by decide +kernel) (by decide +kernel)
theorem tw_489 : Cond.methodLink "ExactDigitsModel$Row" 43 m_Ma_max ∈ gw := gw_t 489 (by decide +kernel) (by decide +kernel)
theorem tw_490 : Cond.methodLink "ExactDigitsModel$Row" 49 m_Ma_min ∈ gw := gw_t 490 (by decide +kernel) (by decide +kernel)
theorem tw_491 : Cond.methodLink "ExactDigitsModel$Row" 52 m_Ro_at ∈ gw := gw_t 491 (by decide +kernel) (by decide +kernel)
theorem tw_492 : Cond.instanceMethod m_Ro_at ∈ gw := gw_t 492 (by decide +kernel) (by decide +kernel)
theorem tw_493 : Cond.selects "ExactDigitsModel$Row" m_Ro_at m_Ro_at ∈ gw := gw_t 493 (by decide +kernel) (by decide +kernel)
theorem tw_494 : Cond.code m_Ro_at prog_7_method_7_code 3 (Option.some FieldType.int) ∈ gw := gw_t 494 (by decide +kernel) (by decide +kernel)
theorem tw_495 : Cond.methodLink "ExactDigitsLaw" 67 m_Mo_put ∈ gw := gw_t 495 (by decide +kernel) (by decide +kernel)
theorem tw_496 : Cond.instanceMethod m_Mo_put ∈ gw := gw_t 496 (by decide +kernel) (by decide +kernel)
theorem tw_497 : Cond.selects "ExactDigitsModel" m_Mo_put m_Mo_put ∈ gw := gw_t 497 (by decide +kernel) (by decide +kernel)
theorem tw_498 : Cond.code m_Mo_put prog_5_method_10_code 6 (Option.some FieldType.int) ∈ gw := gw_t 498 (by decide +kernel) (by decide +kernel)
theorem tw_499 : Cond.methodLink "ExactDigitsLaw" 71 m_Mo_shift ∈ gw := gw_t 499 (by decide +kernel) (by decide +kernel)
theorem tw_500 : Cond.instanceMethod m_Mo_shift ∈ gw := gw_t 500 (by decide +kernel) (by decide +kernel)
theorem tw_501 : Cond.selects "ExactDigitsModel" m_Mo_shift m_Mo_shift ∈ gw := gw_t 501 (by decide +kernel) (by decide +kernel)
theorem tw_502 : Cond.code m_Mo_shift prog_5_method_11_code 2 (Option.some FieldType.int) ∈ gw := gw_t 502 (by decide +kernel) (by decide +kernel)
theorem tw_503 : Cond.methodLink "ExactDigitsModel" 104 m_Mo_kept ∈ gw := gw_t 503 (by decide +kernel) (by decide +kernel)
theorem tw_505 : Cond.instanceMethod m_Mo_kept ∈ gw := gw_t 505 (by decide +kernel) (by decide +kernel)
theorem tw_506 : Cond.code m_Mo_kept prog_5_method_3_code 1 (Option.some FieldType.int) ∈ gw := gw_t 506 (by decide +kernel) (by decide +kernel)
theorem tw_507 : Cond.methodLink "ExactDigitsLaw" 74 m_Mo_move ∈ gw := gw_t 507 (by decide +kernel) (by decide +kernel)
theorem tw_508 : Cond.instanceMethod m_Mo_move ∈ gw := gw_t 508 (by decide +kernel) (by decide +kernel)
theorem tw_509 : Cond.selects "ExactDigitsModel" m_Mo_move m_Mo_move ∈ gw := gw_t 509 (by decide +kernel) (by decide +kernel)
theorem tw_510 : Cond.code m_Mo_move prog_5_method_12_code 4 (Option.some FieldType.int) ∈ gw := gw_t 510 (by decide +kernel) (by decide +kernel)
theorem tw_511 : Cond.methodLink "ExactDigitsLaw" 77 m_Mo_round ∈ gw := gw_t 511 (by decide +kernel) (by decide +kernel)
theorem tw_512 : Cond.instanceMethod m_Mo_round ∈ gw := gw_t 512 (by decide +kernel) (by decide +kernel)
theorem tw_513 : Cond.selects "ExactDigitsModel" m_Mo_round m_Mo_round ∈ gw := gw_t 513 (by decide +kernel) (by decide +kernel)
theorem tw_514 : Cond.code m_Mo_round prog_5_method_14_code 2 (Option.some FieldType.int) ∈ gw := gw_t 514 (by decide +kernel) (by decide +kernel)
theorem tw_515 : Cond.methodLink "ExactDigitsModel" 108 m_Mo_ended ∈ gw := gw_t 515 (by decide +kernel) (by decide +kernel)
theorem tw_517 : Cond.instanceMethod m_Mo_ended ∈ gw := gw_t 517 (by decide +kernel) (by decide +kernel)
theorem tw_518 : Cond.code m_Mo_ended prog_5_method_13_code 5 (Option.some FieldType.int) ∈ gw := gw_t 518 (by decide +kernel) (by decide +kernel)
theorem tw_519 : Cond.methodLink "ExactDigitsLaw" 80 m_Mo_cut ∈ gw := gw_t 519 (by decide +kernel) (by decide +kernel)
theorem tw_520 : Cond.instanceMethod m_Mo_cut ∈ gw := gw_t 520 (by decide +kernel) (by decide +kernel)
theorem tw_521 : Cond.selects "ExactDigitsModel" m_Mo_cut m_Mo_cut ∈ gw := gw_t 521 (by decide +kernel) (by decide +kernel)
theorem tw_522 : Cond.code m_Mo_cut prog_5_method_15_code 2 (Option.some FieldType.int) ∈ gw := gw_t 522 (by decide +kernel) (by decide +kernel)
theorem tw_523 : Cond.methodLink "ExactDigitsLaw" 84 m_Mo_digit ∈ gw := gw_t 523 (by decide +kernel) (by decide +kernel)
theorem tw_524 : Cond.instanceMethod m_Mo_digit ∈ gw := gw_t 524 (by decide +kernel) (by decide +kernel)
theorem tw_525 : Cond.selects "ExactDigitsModel" m_Mo_digit m_Mo_digit ∈ gw := gw_t 525 (by decide +kernel) (by decide +kernel)
theorem tw_526 : Cond.code m_Mo_digit prog_5_method_16_code 4 (Option.some FieldType.int) ∈ gw := gw_t 526 (by decide +kernel) (by decide +kernel)
theorem tw_527 : Cond.methodLink "ExactDigitsLaw" 87 m_Mo_told ∈ gw := gw_t 527 (by decide +kernel) (by decide +kernel)
theorem tw_528 : Cond.instanceMethod m_Mo_told ∈ gw := gw_t 528 (by decide +kernel) (by decide +kernel)
theorem tw_529 : Cond.selects "ExactDigitsModel" m_Mo_told m_Mo_told ∈ gw := gw_t 529 (by decide +kernel) (by decide +kernel)
theorem tw_530 : Cond.code m_Mo_told prog_5_method_17_code 2 (Option.some FieldType.int) ∈ gw := gw_t 530 (by decide +kernel) (by decide +kernel)
theorem tw_531 : Cond.methodLink "ExactDigitsLaw" 92 m_Mo_nearest ∈ gw := gw_t 531 (by decide +kernel) (by decide +kernel)
theorem tw_532 : Cond.instanceMethod m_Mo_nearest ∈ gw := gw_t 532 (by decide +kernel) (by decide +kernel)
theorem tw_533 : Cond.selects "ExactDigitsModel" m_Mo_nearest m_Mo_nearest ∈ gw := gw_t 533 (by decide +kernel) (by decide +kernel)
theorem tw_534 : Cond.code m_Mo_nearest prog_5_method_18_code 12 (Option.some FieldType.long) ∈ gw := gw_t 534 (by decide +kernel) (by decide +kernel)
theorem tw_535 : Cond.constantLong "ExactDigitsModel" 112 (2139095040 : Int64) ∈ gw := gw_t 535 (by decide +kernel) (by decide +kernel)
theorem tw_536 : Cond.constantLong "ExactDigitsModel" 114 (9218868437227405312 : Int64) ∈ gw := gw_t 536 (by decide +kernel) (by decide +kernel)
theorem tw_537 : Cond.methodLink "ExactDigitsModel" 116 m_De_clear ∈ gw := gw_t 537 (by decide +kernel) (by decide +kernel)
theorem tw_538 : Cond.instanceMethod m_De_clear ∈ gw := gw_t 538 (by decide +kernel) (by decide +kernel)
theorem tw_539 : Cond.selects "ExactDigitsModel$Decimal" m_De_clear m_De_clear ∈ gw := gw_t 539 (by decide +kernel) (by decide +kernel)
theorem tw_540 : Cond.code m_De_clear prog_6_method_2_code 2 (none) ∈ gw := gw_t 540 (by decide +kernel) (by decide +kernel)
theorem tw_541 : Cond.methodLink "ExactDigitsModel" 119 m_De_add ∈ gw := gw_t 541 (by decide +kernel) (by decide +kernel)
theorem tw_542 : Cond.instanceMethod m_De_add ∈ gw := gw_t 542 (by decide +kernel) (by decide +kernel)
theorem tw_543 : Cond.selects "ExactDigitsModel$Decimal" m_De_add m_De_add ∈ gw := gw_t 543 (by decide +kernel) (by decide +kernel)
theorem tw_544 : Cond.code m_De_add prog_6_method_12_code 7 (none) ∈ gw := gw_t 544 (by decide +kernel) (by decide +kernel)
theorem tw_545 : Cond.methodLink "ExactDigitsModel$Decimal" 55 m_Ma_min ∈ gw := gw_t 545 (by decide +kernel) (by decide +kernel)
theorem tw_546 : Cond.methodLink "ExactDigitsModel$Decimal" 45 m_Ma_max ∈ gw := gw_t 546 (by decide +kernel) (by decide +kernel)
theorem tw_547 : Cond.methodLink "ExactDigitsModel" 126 m_Mo_bits ∈ gw := gw_t 547 (by decide +kernel) (by decide +kernel)
theorem tw_549 : Cond.instanceMethod m_Mo_bits ∈ gw := gw_t 549 (by decide +kernel) (by decide +kernel)
theorem tw_550 : Cond.code m_Mo_bits prog_5_method_19_code 1 (Option.some FieldType.int) ∈ gw := gw_t 550 (by decide +kernel) (by decide +kernel)
theorem tw_551 : Cond.methodLink "ExactDigitsModel" 135 m_Mo_ones ∈ gw := gw_t 551 (by decide +kernel) (by decide +kernel)
theorem tw_553 : Cond.instanceMethod m_Mo_ones ∈ gw := gw_t 553 (by decide +kernel) (by decide +kernel)
theorem tw_554 : Cond.code m_Mo_ones prog_5_method_20_code 1 (Option.some FieldType.long) ∈ gw := gw_t 554 (by decide +kernel) (by decide +kernel)
theorem tw_555 : Cond.constantLong "ExactDigitsModel" 157 (1000000000 : Int64) ∈ gw := gw_t 555 (by decide +kernel) (by decide +kernel)
theorem tw_556 : Cond.methodLink "ExactDigitsModel" 147 m_Lo_numberOfLeadingZeros ∈ gw := gw_t 556 (by decide +kernel) (by decide +kernel)
theorem tw_557 : Cond.static m_Lo_numberOfLeadingZeros ∈ gw := gw_t 557 (by decide +kernel) (by decide +kernel)
theorem tw_558 : Cond.code m_Lo_numberOfLeadingZeros prog_13_method_48_code 3 (Option.some FieldType.int) ∈ gw := gw_t 558 (by decide +kernel) (by decide +kernel)
theorem tw_559 : Cond.methodLink "java/lang/Long" 308 m_In_numberOfLeadingZeros ∈ gw := gw_t 559 (by decide +kernel) (by decide +kernel)
theorem tw_560 : Cond.static m_In_numberOfLeadingZeros ∈ gw := gw_t 560 (by decide +kernel) (by decide +kernel)
theorem tw_561 : Cond.code m_In_numberOfLeadingZeros prog_12_method_47_code 2 (Option.some FieldType.int) ∈ gw := gw_t 561 (by decide +kernel) (by decide +kernel)
theorem tw_562 : Cond.constant "java/lang/Integer" 264 (65536 : Int32) ∈ gw := gw_t 562 (by decide +kernel) (by decide +kernel)
theorem tw_563 : Cond.methodLink "ExactDigitsModel" 129 m_De_half ∈ gw := gw_t 563 (by decide +kernel) (by decide +kernel)
theorem tw_564 : Cond.instanceMethod m_De_half ∈ gw := gw_t 564 (by decide +kernel) (by decide +kernel)
theorem tw_565 : Cond.selects "ExactDigitsModel$Decimal" m_De_half m_De_half ∈ gw := gw_t 565 (by decide +kernel) (by decide +kernel)
theorem tw_566 : Cond.code m_De_half prog_6_method_5_code 4 (none) ∈ gw := gw_t 566 (by decide +kernel) (by decide +kernel)
theorem tw_567 : Cond.constantLong "ExactDigitsModel$Decimal" 25 (1000000000 : Int64) ∈ gw := gw_t 567 (by decide +kernel) (by decide +kernel)
theorem tw_568 : Cond.constantLong "ExactDigitsModel$Decimal" 28 (2 : Int64) ∈ gw := gw_t 568 (by decide +kernel) (by decide +kernel)
theorem tw_569 : Cond.constant "ExactDigitsModel$Decimal" 30 (500000000 : Int32) ∈ gw := gw_t 569 (by decide +kernel) (by decide +kernel)
theorem tw_570 : Cond.methodLink "ExactDigitsModel" 132 m_De_twice ∈ gw := gw_t 570 (by decide +kernel) (by decide +kernel)
theorem tw_571 : Cond.instanceMethod m_De_twice ∈ gw := gw_t 571 (by decide +kernel) (by decide +kernel)
theorem tw_572 : Cond.selects "ExactDigitsModel$Decimal" m_De_twice m_De_twice ∈ gw := gw_t 572 (by decide +kernel) (by decide +kernel)
theorem tw_573 : Cond.code m_De_twice prog_6_method_4_code 4 (none) ∈ gw := gw_t 573 (by decide +kernel) (by decide +kernel)
theorem tw_574 : Cond.constant "ExactDigitsModel$Decimal" 27 (1000000000 : Int32) ∈ gw := gw_t 574 (by decide +kernel) (by decide +kernel)
theorem tw_575 : Cond.methodLink "ExactDigitsModel" 139 m_De_digit ∈ gw := gw_t 575 (by decide +kernel) (by decide +kernel)
theorem tw_576 : Cond.instanceMethod m_De_digit ∈ gw := gw_t 576 (by decide +kernel) (by decide +kernel)
theorem tw_577 : Cond.selects "ExactDigitsModel$Decimal" m_De_digit m_De_digit ∈ gw := gw_t 577 (by decide +kernel) (by decide +kernel)
theorem tw_578 : Cond.code m_De_digit prog_6_method_7_code 6 (Option.some FieldType.int) ∈ gw := gw_t 578 (by decide +kernel) (by decide +kernel)
theorem tw_579 : Cond.methodLink "ExactDigitsModel" 143 m_De_isBelow ∈ gw := gw_t 579 (by decide +kernel) (by decide +kernel)
theorem tw_580 : Cond.instanceMethod m_De_isBelow ∈ gw := gw_t 580 (by decide +kernel) (by decide +kernel)
theorem tw_581 : Cond.selects "ExactDigitsModel$Decimal" m_De_isBelow m_De_isBelow ∈ gw := gw_t 581 (by decide +kernel) (by decide +kernel)
theorem tw_582 : Cond.code m_De_isBelow prog_6_method_11_code 3 (Option.some FieldType.boolean) ∈ gw := gw_t 582 (by decide +kernel) (by decide +kernel)
theorem tw_583 : Cond.methodLink "ExactDigitsModel$Decimal" 51 m_De_low ∈ gw := gw_t 583 (by decide +kernel) (by decide +kernel)
theorem tw_584 : Cond.instanceMethod m_De_low ∈ gw := gw_t 584 (by decide +kernel) (by decide +kernel)
theorem tw_585 : Cond.selects "ExactDigitsModel$Decimal" m_De_low m_De_low ∈ gw := gw_t 585 (by decide +kernel) (by decide +kernel)
theorem tw_586 : Cond.code m_De_low prog_6_method_10_code 1 (Option.some FieldType.int) ∈ gw := gw_t 586 (by decide +kernel) (by decide +kernel)
theorem tw_587 : Cond.methodLink "ExactDigitsModel$Decimal" 41 m_De_digit ∈ gw := gw_t 587 (by decide +kernel) (by decide +kernel)
theorem tw_588 : Cond.methodLink "ExactDigitsLaw" 97 m_Mo_digest ∈ gw := gw_t 588 (by decide +kernel) (by decide +kernel)
theorem tw_589 : Cond.instanceMethod m_Mo_digest ∈ gw := gw_t 589 (by decide +kernel) (by decide +kernel)
theorem tw_590 : Cond.selects "ExactDigitsModel" m_Mo_digest m_Mo_digest ∈ gw := gw_t 590 (by decide +kernel) (by decide +kernel)
theorem tw_591 : Cond.code m_Mo_digest prog_5_method_21_code 4 (Option.some FieldType.long) ∈ gw := gw_t 591 (by decide +kernel) (by decide +kernel)
theorem tw_592 : Cond.constantLong "ExactDigitsModel" 159 (7 : Int64) ∈ gw := gw_t 592 (by decide +kernel) (by decide +kernel)
theorem tw_593 : Cond.constantLong "ExactDigitsModel" 161 (31 : Int64) ∈ gw := gw_t 593 (by decide +kernel) (by decide +kernel)
theorem tw_594 : Cond.constantLong "ExactDigitsLaw" 44 (4294967295 : Int64) ∈ gw := gw_t 594 (by decide +kernel) (by decide +kernel)
theorem tw_595 : Cond.arrayClass FieldType.long ∈ gw := gw_t 595 (by decide +kernel) (by decide +kernel)
theorem tw_596 : Cond.sameMethod "java/lang/Throwable" "java/lang/Throwable" "fillInStackTrace" "(I)Ljava/lang/Throwable;" ∈ gw := gw_t 596 (by decide +kernel) (by decide +kernel)
theorem tw_597 : Cond.fieldLink "ExactDigits$Format" 36 "ExactDigits$Format" "sizeMask" "J" ∈ gw := gw_t 597 (by decide +kernel) (by decide +kernel)
theorem tw_598 : Cond.fieldLink "ExactDigits" 100 "ExactDigits$Format" "infinite" "J" ∈ gw := gw_t 598 (by decide +kernel) (by decide +kernel)
theorem tw_599 : Cond.fieldLink "ExactDigits$Format" 29 "ExactDigits$Format" "fractionBits" "I" ∈ gw := gw_t 599 (by decide +kernel) (by decide +kernel)
theorem tw_600 : Cond.fieldLink "ExactDigits$Format" 33 "ExactDigits$Format" "leastExponent" "I" ∈ gw := gw_t 600 (by decide +kernel) (by decide +kernel)
theorem tw_601 : Cond.fieldLink "ExactDigits$Format" 40 "ExactDigits$Format" "infinite" "J" ∈ gw := gw_t 601 (by decide +kernel) (by decide +kernel)
theorem ts_0 : Cond.selects "ExactDigits" m_Ed_giveScratch m_Ed_giveScratch ∈ gw := gw_s 0 (by decide +kernel) (by decide +kernel)
theorem ts_1 : Cond.selects "ExactDigits" m_Ed_dropZerosBehind m_Ed_dropZerosBehind ∈ gw := gw_s 1 (by decide +kernel) (by decide +kernel)
theorem ts_2 : Cond.selects "ExactDigits" m_Ed_nearestToScratch m_Ed_nearestToScratch ∈ gw := gw_s 2 (by decide +kernel) (by decide +kernel)
theorem ts_3 : Cond.selects "ExactDigits$Natural" m_Na_times m_Na_times ∈ gw := gw_s 3 (by decide +kernel) (by decide +kernel)
theorem ts_4 : Cond.selects "ExactDigits$Natural" m_Na_digitAt m_Na_digitAt ∈ gw := gw_s 4 (by decide +kernel) (by decide +kernel)
theorem ts_5 : Cond.selects "java/lang/Throwable" ⟨"java/lang/Throwable", "fillInStackTrace", "(I)Ljava/lang/Throwable;"⟩ ⟨"java/lang/Throwable", "fillInStackTrace", "(I)Ljava/lang/Throwable;"⟩ ∈ gw := gw_s 5 (by decide +kernel) (by decide +kernel)
theorem ts_6 : Cond.selects "ExactDigits" m_Ed_giveExact m_Ed_giveExact ∈ gw := gw_s 6 (by decide +kernel) (by decide +kernel)
theorem ts_7 : Cond.selects "ExactDigits" m_Ed_shorten m_Ed_shorten ∈ gw := gw_s 7 (by decide +kernel) (by decide +kernel)
theorem ts_8 : Cond.selects "ExactDigits" m_Ed_neighbourReadBack m_Ed_neighbourReadBack ∈ gw := gw_s 8 (by decide +kernel) (by decide +kernel)
theorem ts_9 : Cond.selects "ExactDigits" m_Ed_firstDigits m_Ed_firstDigits ∈ gw := gw_s 9 (by decide +kernel) (by decide +kernel)
theorem ts_10 : Cond.selects "ExactDigits" m_Ed_isNearerAbove m_Ed_isNearerAbove ∈ gw := gw_s 10 (by decide +kernel) (by decide +kernel)
theorem ts_11 : Cond.selects "ExactDigits" m_Ed_readsBack m_Ed_readsBack ∈ gw := gw_s 11 (by decide +kernel) (by decide +kernel)
theorem ts_12 : Cond.selects "ExactDigits" m_Ed_append m_Ed_append ∈ gw := gw_s 12 (by decide +kernel) (by decide +kernel)
theorem ts_13 : Cond.selects "ExactDigits" m_Ed_keepFirstAndOneMore m_Ed_keepFirstAndOneMore ∈ gw := gw_s 13 (by decide +kernel) (by decide +kernel)
theorem ts_14 : Cond.selects "ExactDigits" m_Ed_keepFirst m_Ed_keepFirst ∈ gw := gw_s 14 (by decide +kernel) (by decide +kernel)
theorem ts_15 : Cond.selects "ExactDigitsModel" m_Mo_isNumber m_Mo_isNumber ∈ gw := gw_s 15 (by decide +kernel) (by decide +kernel)
theorem ts_16 : Cond.selects "ExactDigitsModel" m_Mo_first m_Mo_first ∈ gw := gw_s 16 (by decide +kernel) (by decide +kernel)
theorem ts_17 : Cond.selects "ExactDigitsModel" m_Mo_isIn m_Mo_isIn ∈ gw := gw_s 17 (by decide +kernel) (by decide +kernel)
theorem ts_18 : Cond.selects "ExactDigitsModel" m_Mo_kept m_Mo_kept ∈ gw := gw_s 18 (by decide +kernel) (by decide +kernel)
theorem ts_19 : Cond.selects "ExactDigitsModel" m_Mo_ended m_Mo_ended ∈ gw := gw_s 19 (by decide +kernel) (by decide +kernel)
theorem ts_20 : Cond.selects "ExactDigitsModel" m_Mo_bits m_Mo_bits ∈ gw := gw_s 20 (by decide +kernel) (by decide +kernel)
theorem ts_21 : Cond.selects "ExactDigitsModel" m_Mo_ones m_Mo_ones ∈ gw := gw_s 21 (by decide +kernel) (by decide +kernel)
theorem in_Na : ∀ w ∈ u_ws R_Na T_Na 2, w ∈ gw := by decide +kernel
theorem in_Ed : ∀ w ∈ u_ws R_Ed T_Ed 5, w ∈ gw := by decide +kernel
theorem in_De : ∀ w ∈ u_ws R_De T_De 3, w ∈ gw := by decide +kernel
theorem in_Ro : ∀ w ∈ u_ws R_Ro T_Ro 3, w ∈ gw := by decide +kernel
theorem in_Mo : ∀ w ∈ u_ws R_Mo T_Mo 10, w ∈ gw := by decide +kernel
end
section
theorem d_Fo_nearestTo_0 : decode b_Fo_nearestTo 0 = .ok (.lload_n 1, 1) := by decide +kernel
theorem d_Fo_nearestTo_1 : decode b_Fo_nearestTo 1 = .ok (.invokestatic 49, 3) := by decide +kernel
theorem d_Fo_nearestTo_4 : decode b_Fo_nearestTo 4 = .ok (.iconst 1, 1) := by decide +kernel
theorem d_Fo_nearestTo_5 : decode b_Fo_nearestTo 5 = .ok (.isub, 1) := by decide +kernel
theorem d_Fo_nearestTo_6 : decode b_Fo_nearestTo 6 = .ok (.aload_n 0, 1) := by decide +kernel
theorem d_Fo_nearestTo_7 : decode b_Fo_nearestTo 7 = .ok (.getfield 29, 3) := by decide +kernel
theorem d_Fo_nearestTo_10 : decode b_Fo_nearestTo 10 = .ok (.isub, 1) := by decide +kernel
theorem d_Fo_nearestTo_11 : decode b_Fo_nearestTo 11 = .ok (.istore 5, 2) := by decide +kernel
theorem d_Fo_nearestTo_13 : decode b_Fo_nearestTo 13 = .ok (.iload 5, 2) := by decide +kernel
theorem d_Fo_nearestTo_15 : decode b_Fo_nearestTo 15 = .ok (.aload_n 0, 1) := by decide +kernel
theorem d_Fo_nearestTo_16 : decode b_Fo_nearestTo 16 = .ok (.getfield 33, 3) := by decide +kernel
theorem d_Fo_nearestTo_19 : decode b_Fo_nearestTo 19 = .ok (.iload 4, 2) := by decide +kernel
theorem d_Fo_nearestTo_21 : decode b_Fo_nearestTo 21 = .ok (.isub, 1) := by decide +kernel
theorem d_Fo_nearestTo_22 : decode b_Fo_nearestTo 22 = .ok (.invokestatic 43, 3) := by decide +kernel
theorem d_Fo_nearestTo_25 : decode b_Fo_nearestTo 25 = .ok (.istore 6, 2) := by decide +kernel
theorem d_Fo_nearestTo_27 : decode b_Fo_nearestTo 27 = .ok (.iload 4, 2) := by decide +kernel
theorem d_Fo_nearestTo_29 : decode b_Fo_nearestTo 29 = .ok (.iload 6, 2) := by decide +kernel
theorem d_Fo_nearestTo_31 : decode b_Fo_nearestTo 31 = .ok (.iadd, 1) := by decide +kernel
theorem d_Fo_nearestTo_32 : decode b_Fo_nearestTo 32 = .ok (.aload_n 0, 1) := by decide +kernel
theorem d_Fo_nearestTo_33 : decode b_Fo_nearestTo 33 = .ok (.getfield 33, 3) := by decide +kernel
theorem d_Fo_nearestTo_36 : decode b_Fo_nearestTo 36 = .ok (.isub, 1) := by decide +kernel
theorem d_Fo_nearestTo_37 : decode b_Fo_nearestTo 37 = .ok (.istore 7, 2) := by decide +kernel
theorem d_Fo_nearestTo_39 : decode b_Fo_nearestTo 39 = .ok (.iload 6, 2) := by decide +kernel
theorem d_Fo_nearestTo_41 : decode b_Fo_nearestTo 41 = .ok (.bipush 63, 2) := by decide +kernel
theorem d_Fo_nearestTo_43 : decode b_Fo_nearestTo 43 = .ok (.if_icmp .le 5, 3) := by decide +kernel
theorem d_Fo_nearestTo_46 : decode b_Fo_nearestTo 46 = .ok (.lconst 0, 1) := by decide +kernel
theorem d_Fo_nearestTo_47 : decode b_Fo_nearestTo 47 = .ok (.lreturn, 1) := by decide +kernel
theorem d_Fo_nearestTo_48 : decode b_Fo_nearestTo 48 = .ok (.iload 7, 2) := by decide +kernel
theorem d_Fo_nearestTo_50 : decode b_Fo_nearestTo 50 = .ok (.i2l, 1) := by decide +kernel
theorem d_Fo_nearestTo_51 : decode b_Fo_nearestTo 51 = .ok (.aload_n 0, 1) := by decide +kernel
theorem d_Fo_nearestTo_52 : decode b_Fo_nearestTo 52 = .ok (.getfield 40, 3) := by decide +kernel
theorem d_Fo_nearestTo_55 : decode b_Fo_nearestTo 55 = .ok (.aload_n 0, 1) := by decide +kernel
theorem d_Fo_nearestTo_56 : decode b_Fo_nearestTo 56 = .ok (.getfield 29, 3) := by decide +kernel
theorem d_Fo_nearestTo_59 : decode b_Fo_nearestTo 59 = .ok (.lushr, 1) := by decide +kernel
theorem d_Fo_nearestTo_60 : decode b_Fo_nearestTo 60 = .ok (.ldc2_w 53, 3) := by decide +kernel
theorem d_Fo_nearestTo_63 : decode b_Fo_nearestTo 63 = .ok (.lsub, 1) := by decide +kernel
theorem d_Fo_nearestTo_64 : decode b_Fo_nearestTo 64 = .ok (.lcmp, 1) := by decide +kernel
theorem d_Fo_nearestTo_65 : decode b_Fo_nearestTo 65 = .ok (.ifCond .le 8, 3) := by decide +kernel
theorem d_Fo_nearestTo_68 : decode b_Fo_nearestTo 68 = .ok (.aload_n 0, 1) := by decide +kernel
theorem d_Fo_nearestTo_69 : decode b_Fo_nearestTo 69 = .ok (.getfield 40, 3) := by decide +kernel
theorem d_Fo_nearestTo_72 : decode b_Fo_nearestTo 72 = .ok (.lreturn, 1) := by decide +kernel
theorem d_Fo_nearestTo_73 : decode b_Fo_nearestTo 73 = .ok (.lload_n 1, 1) := by decide +kernel
theorem d_Fo_nearestTo_74 : decode b_Fo_nearestTo 74 = .ok (.iload 6, 2) := by decide +kernel
theorem d_Fo_nearestTo_76 : decode b_Fo_nearestTo 76 = .ok (.lushr, 1) := by decide +kernel
theorem d_Fo_nearestTo_77 : decode b_Fo_nearestTo 77 = .ok (.lstore 8, 2) := by decide +kernel
theorem d_Fo_nearestTo_79 : decode b_Fo_nearestTo 79 = .ok (.lload_n 1, 1) := by decide +kernel
theorem d_Fo_nearestTo_80 : decode b_Fo_nearestTo 80 = .ok (.lload 8, 2) := by decide +kernel
theorem d_Fo_nearestTo_82 : decode b_Fo_nearestTo 82 = .ok (.iload 6, 2) := by decide +kernel
theorem d_Fo_nearestTo_84 : decode b_Fo_nearestTo 84 = .ok (.lshl, 1) := by decide +kernel
theorem d_Fo_nearestTo_85 : decode b_Fo_nearestTo 85 = .ok (.lsub, 1) := by decide +kernel
theorem d_Fo_nearestTo_86 : decode b_Fo_nearestTo 86 = .ok (.lstore 10, 2) := by decide +kernel
theorem d_Fo_nearestTo_88 : decode b_Fo_nearestTo 88 = .ok (.lconst 1, 1) := by decide +kernel
theorem d_Fo_nearestTo_89 : decode b_Fo_nearestTo 89 = .ok (.iload 6, 2) := by decide +kernel
theorem d_Fo_nearestTo_91 : decode b_Fo_nearestTo 91 = .ok (.iconst 1, 1) := by decide +kernel
theorem d_Fo_nearestTo_92 : decode b_Fo_nearestTo 92 = .ok (.isub, 1) := by decide +kernel
theorem d_Fo_nearestTo_93 : decode b_Fo_nearestTo 93 = .ok (.lshl, 1) := by decide +kernel
theorem d_Fo_nearestTo_94 : decode b_Fo_nearestTo 94 = .ok (.lstore 12, 2) := by decide +kernel
theorem d_Fo_nearestTo_96 : decode b_Fo_nearestTo 96 = .ok (.lload 10, 2) := by decide +kernel
theorem d_Fo_nearestTo_98 : decode b_Fo_nearestTo 98 = .ok (.lload 12, 2) := by decide +kernel
theorem d_Fo_nearestTo_100 : decode b_Fo_nearestTo 100 = .ok (.lcmp, 1) := by decide +kernel
theorem d_Fo_nearestTo_101 : decode b_Fo_nearestTo 101 = .ok (.ifCond .gt 24, 3) := by decide +kernel
theorem d_Fo_nearestTo_104 : decode b_Fo_nearestTo 104 = .ok (.lload 10, 2) := by decide +kernel
theorem d_Fo_nearestTo_106 : decode b_Fo_nearestTo 106 = .ok (.lload 12, 2) := by decide +kernel
theorem d_Fo_nearestTo_108 : decode b_Fo_nearestTo 108 = .ok (.lcmp, 1) := by decide +kernel
theorem d_Fo_nearestTo_109 : decode b_Fo_nearestTo 109 = .ok (.ifCond .ne 20, 3) := by decide +kernel
theorem d_Fo_nearestTo_112 : decode b_Fo_nearestTo 112 = .ok (.iload_n 3, 1) := by decide +kernel
theorem d_Fo_nearestTo_113 : decode b_Fo_nearestTo 113 = .ok (.ifCond .ne 12, 3) := by decide +kernel
theorem d_Fo_nearestTo_116 : decode b_Fo_nearestTo 116 = .ok (.lload 8, 2) := by decide +kernel
theorem d_Fo_nearestTo_118 : decode b_Fo_nearestTo 118 = .ok (.lconst 1, 1) := by decide +kernel
theorem d_Fo_nearestTo_119 : decode b_Fo_nearestTo 119 = .ok (.land, 1) := by decide +kernel
theorem d_Fo_nearestTo_120 : decode b_Fo_nearestTo 120 = .ok (.lconst 0, 1) := by decide +kernel
theorem d_Fo_nearestTo_121 : decode b_Fo_nearestTo 121 = .ok (.lcmp, 1) := by decide +kernel
theorem d_Fo_nearestTo_122 : decode b_Fo_nearestTo 122 = .ok (.ifCond .eq 7, 3) := by decide +kernel
theorem d_Fo_nearestTo_125 : decode b_Fo_nearestTo 125 = .ok (.iconst 1, 1) := by decide +kernel
theorem d_Fo_nearestTo_126 : decode b_Fo_nearestTo 126 = .ok (.goto 4, 3) := by decide +kernel
theorem d_Fo_nearestTo_129 : decode b_Fo_nearestTo 129 = .ok (.iconst 0, 1) := by decide +kernel
theorem d_Fo_nearestTo_130 : decode b_Fo_nearestTo 130 = .ok (.istore 14, 2) := by decide +kernel
theorem d_Fo_nearestTo_132 : decode b_Fo_nearestTo 132 = .ok (.iload 7, 2) := by decide +kernel
theorem d_Fo_nearestTo_134 : decode b_Fo_nearestTo 134 = .ok (.i2l, 1) := by decide +kernel
theorem d_Fo_nearestTo_135 : decode b_Fo_nearestTo 135 = .ok (.aload_n 0, 1) := by decide +kernel
theorem d_Fo_nearestTo_136 : decode b_Fo_nearestTo 136 = .ok (.getfield 29, 3) := by decide +kernel
theorem d_Fo_nearestTo_139 : decode b_Fo_nearestTo 139 = .ok (.lshl, 1) := by decide +kernel
theorem d_Fo_nearestTo_140 : decode b_Fo_nearestTo 140 = .ok (.lload 8, 2) := by decide +kernel
theorem d_Fo_nearestTo_142 : decode b_Fo_nearestTo 142 = .ok (.ladd, 1) := by decide +kernel
theorem d_Fo_nearestTo_143 : decode b_Fo_nearestTo 143 = .ok (.iload 14, 2) := by decide +kernel
theorem d_Fo_nearestTo_145 : decode b_Fo_nearestTo 145 = .ok (.ifCond .eq 7, 3) := by decide +kernel
theorem d_Fo_nearestTo_148 : decode b_Fo_nearestTo 148 = .ok (.iconst 1, 1) := by decide +kernel
theorem d_Fo_nearestTo_149 : decode b_Fo_nearestTo 149 = .ok (.goto 4, 3) := by decide +kernel
theorem d_Fo_nearestTo_152 : decode b_Fo_nearestTo 152 = .ok (.iconst 0, 1) := by decide +kernel
theorem d_Fo_nearestTo_153 : decode b_Fo_nearestTo 153 = .ok (.i2l, 1) := by decide +kernel
theorem d_Fo_nearestTo_154 : decode b_Fo_nearestTo 154 = .ok (.ladd, 1) := by decide +kernel
theorem d_Fo_nearestTo_155 : decode b_Fo_nearestTo 155 = .ok (.lreturn, 1) := by decide +kernel
theorem d_Fo_bitsOf_0 : decode b_Fo_bitsOf 0 = .ok (.iconst 0, 1) := by decide +kernel
theorem d_Fo_bitsOf_1 : decode b_Fo_bitsOf 1 = .ok (.istore_n 2, 1) := by decide +kernel
theorem d_Fo_bitsOf_2 : decode b_Fo_bitsOf 2 = .ok (.iload_n 2, 1) := by decide +kernel
theorem d_Fo_bitsOf_3 : decode b_Fo_bitsOf 3 = .ok (.bipush 64, 2) := by decide +kernel
theorem d_Fo_bitsOf_5 : decode b_Fo_bitsOf 5 = .ok (.if_icmp .ge 17, 3) := by decide +kernel
theorem d_Fo_bitsOf_8 : decode b_Fo_bitsOf 8 = .ok (.lload_n 0, 1) := by decide +kernel
theorem d_Fo_bitsOf_9 : decode b_Fo_bitsOf 9 = .ok (.iload_n 2, 1) := by decide +kernel
theorem d_Fo_bitsOf_10 : decode b_Fo_bitsOf 10 = .ok (.lushr, 1) := by decide +kernel
theorem d_Fo_bitsOf_11 : decode b_Fo_bitsOf 11 = .ok (.lconst 0, 1) := by decide +kernel
theorem d_Fo_bitsOf_12 : decode b_Fo_bitsOf 12 = .ok (.lcmp, 1) := by decide +kernel
theorem d_Fo_bitsOf_13 : decode b_Fo_bitsOf 13 = .ok (.ifCond .eq 9, 3) := by decide +kernel
theorem d_Fo_bitsOf_16 : decode b_Fo_bitsOf 16 = .ok (.iinc 2 1, 3) := by decide +kernel
theorem d_Fo_bitsOf_19 : decode b_Fo_bitsOf 19 = .ok (.goto (-17), 3) := by decide +kernel
theorem d_Fo_bitsOf_22 : decode b_Fo_bitsOf 22 = .ok (.iload_n 2, 1) := by decide +kernel
theorem d_Fo_bitsOf_23 : decode b_Fo_bitsOf 23 = .ok (.ireturn, 1) := by decide +kernel
theorem d_Fo_withoutSign_0 : decode b_Fo_withoutSign 0 = .ok (.lload_n 1, 1) := by decide +kernel
theorem d_Fo_withoutSign_1 : decode b_Fo_withoutSign 1 = .ok (.aload_n 0, 1) := by decide +kernel
theorem d_Fo_withoutSign_2 : decode b_Fo_withoutSign 2 = .ok (.getfield 36, 3) := by decide +kernel
theorem d_Fo_withoutSign_5 : decode b_Fo_withoutSign 5 = .ok (.land, 1) := by decide +kernel
theorem d_Fo_withoutSign_6 : decode b_Fo_withoutSign 6 = .ok (.lreturn, 1) := by decide +kernel
theorem d_Fo_significand_0 : decode b_Fo_significand 0 = .ok (.lconst 1, 1) := by decide +kernel
theorem d_Fo_significand_1 : decode b_Fo_significand 1 = .ok (.aload_n 0, 1) := by decide +kernel
theorem d_Fo_significand_2 : decode b_Fo_significand 2 = .ok (.getfield 29, 3) := by decide +kernel
theorem d_Fo_significand_5 : decode b_Fo_significand 5 = .ok (.lshl, 1) := by decide +kernel
theorem d_Fo_significand_6 : decode b_Fo_significand 6 = .ok (.lstore_n 3, 1) := by decide +kernel
theorem d_Fo_significand_7 : decode b_Fo_significand 7 = .ok (.lload_n 1, 1) := by decide +kernel
theorem d_Fo_significand_8 : decode b_Fo_significand 8 = .ok (.lload_n 3, 1) := by decide +kernel
theorem d_Fo_significand_9 : decode b_Fo_significand 9 = .ok (.lconst 1, 1) := by decide +kernel
theorem d_Fo_significand_10 : decode b_Fo_significand 10 = .ok (.lsub, 1) := by decide +kernel
theorem d_Fo_significand_11 : decode b_Fo_significand 11 = .ok (.land, 1) := by decide +kernel
theorem d_Fo_significand_12 : decode b_Fo_significand 12 = .ok (.lstore 5, 2) := by decide +kernel
theorem d_Fo_significand_14 : decode b_Fo_significand 14 = .ok (.lload_n 1, 1) := by decide +kernel
theorem d_Fo_significand_15 : decode b_Fo_significand 15 = .ok (.lload_n 3, 1) := by decide +kernel
theorem d_Fo_significand_16 : decode b_Fo_significand 16 = .ok (.lcmp, 1) := by decide +kernel
theorem d_Fo_significand_17 : decode b_Fo_significand 17 = .ok (.ifCond .ge 8, 3) := by decide +kernel
theorem d_Fo_significand_20 : decode b_Fo_significand 20 = .ok (.lload 5, 2) := by decide +kernel
theorem d_Fo_significand_22 : decode b_Fo_significand 22 = .ok (.goto 7, 3) := by decide +kernel
theorem d_Fo_significand_25 : decode b_Fo_significand 25 = .ok (.lload 5, 2) := by decide +kernel
theorem d_Fo_significand_27 : decode b_Fo_significand 27 = .ok (.lload_n 3, 1) := by decide +kernel
theorem d_Fo_significand_28 : decode b_Fo_significand 28 = .ok (.lor, 1) := by decide +kernel
theorem d_Fo_significand_29 : decode b_Fo_significand 29 = .ok (.lreturn, 1) := by decide +kernel
theorem d_Fo_exponent_0 : decode b_Fo_exponent 0 = .ok (.lload_n 1, 1) := by decide +kernel
theorem d_Fo_exponent_1 : decode b_Fo_exponent 1 = .ok (.aload_n 0, 1) := by decide +kernel
theorem d_Fo_exponent_2 : decode b_Fo_exponent 2 = .ok (.getfield 29, 3) := by decide +kernel
theorem d_Fo_exponent_5 : decode b_Fo_exponent 5 = .ok (.lushr, 1) := by decide +kernel
theorem d_Fo_exponent_6 : decode b_Fo_exponent 6 = .ok (.l2i, 1) := by decide +kernel
theorem d_Fo_exponent_7 : decode b_Fo_exponent 7 = .ok (.istore_n 3, 1) := by decide +kernel
theorem d_Fo_exponent_8 : decode b_Fo_exponent 8 = .ok (.aload_n 0, 1) := by decide +kernel
theorem d_Fo_exponent_9 : decode b_Fo_exponent 9 = .ok (.getfield 33, 3) := by decide +kernel
theorem d_Fo_exponent_12 : decode b_Fo_exponent 12 = .ok (.iload_n 3, 1) := by decide +kernel
theorem d_Fo_exponent_13 : decode b_Fo_exponent 13 = .ok (.iconst 1, 1) := by decide +kernel
theorem d_Fo_exponent_14 : decode b_Fo_exponent 14 = .ok (.isub, 1) := by decide +kernel
theorem d_Fo_exponent_15 : decode b_Fo_exponent 15 = .ok (.iconst 0, 1) := by decide +kernel
theorem d_Fo_exponent_16 : decode b_Fo_exponent 16 = .ok (.invokestatic 43, 3) := by decide +kernel
theorem d_Fo_exponent_19 : decode b_Fo_exponent 19 = .ok (.iadd, 1) := by decide +kernel
theorem d_Fo_exponent_20 : decode b_Fo_exponent 20 = .ok (.ireturn, 1) := by decide +kernel
end
section
theorem d_Na_init_0 : decode b_Na_init 0 = .ok (.aload_n 0, 1) := by decide +kernel
theorem d_Na_init_1 : decode b_Na_init 1 = .ok (.invokespecial 1, 3) := by decide +kernel
theorem d_Na_init_4 : decode b_Na_init 4 = .ok (.aload_n 0, 1) := by decide +kernel
theorem d_Na_init_5 : decode b_Na_init 5 = .ok (.sipush 306, 3) := by decide +kernel
theorem d_Na_init_8 : decode b_Na_init 8 = .ok (.newarray .int, 2) := by decide +kernel
theorem d_Na_init_10 : decode b_Na_init 10 = .ok (.putfield 9, 3) := by decide +kernel
theorem d_Na_init_13 : decode b_Na_init 13 = .ok (.aload_n 0, 1) := by decide +kernel
theorem d_Na_init_14 : decode b_Na_init 14 = .ok (.iconst 0, 1) := by decide +kernel
theorem d_Na_init_15 : decode b_Na_init 15 = .ok (.putfield 13, 3) := by decide +kernel
theorem d_Na_init_18 : decode b_Na_init 18 = .ok (.return_, 1) := by decide +kernel
theorem d_Na_setUnsigned_0 : decode b_Na_setUnsigned 0 = .ok (.lload_n 1, 1) := by decide +kernel
theorem d_Na_setUnsigned_1 : decode b_Na_setUnsigned 1 = .ok (.lstore_n 3, 1) := by decide +kernel
theorem d_Na_setUnsigned_2 : decode b_Na_setUnsigned 2 = .ok (.aload_n 0, 1) := by decide +kernel
theorem d_Na_setUnsigned_3 : decode b_Na_setUnsigned 3 = .ok (.iconst 0, 1) := by decide +kernel
theorem d_Na_setUnsigned_4 : decode b_Na_setUnsigned 4 = .ok (.putfield 13, 3) := by decide +kernel
theorem d_Na_setUnsigned_7 : decode b_Na_setUnsigned 7 = .ok (.lload_n 3, 1) := by decide +kernel
theorem d_Na_setUnsigned_8 : decode b_Na_setUnsigned 8 = .ok (.lconst 0, 1) := by decide +kernel
theorem d_Na_setUnsigned_9 : decode b_Na_setUnsigned 9 = .ok (.lcmp, 1) := by decide +kernel
theorem d_Na_setUnsigned_10 : decode b_Na_setUnsigned 10 = .ok (.ifCond .eq 58, 3) := by decide +kernel
theorem d_Na_setUnsigned_13 : decode b_Na_setUnsigned 13 = .ok (.aload_n 0, 1) := by decide +kernel
theorem d_Na_setUnsigned_14 : decode b_Na_setUnsigned 14 = .ok (.getfield 13, 3) := by decide +kernel
theorem d_Na_setUnsigned_17 : decode b_Na_setUnsigned 17 = .ok (.aload_n 0, 1) := by decide +kernel
theorem d_Na_setUnsigned_18 : decode b_Na_setUnsigned 18 = .ok (.getfield 9, 3) := by decide +kernel
theorem d_Na_setUnsigned_21 : decode b_Na_setUnsigned 21 = .ok (.arraylength, 1) := by decide +kernel
theorem d_Na_setUnsigned_22 : decode b_Na_setUnsigned 22 = .ok (.if_icmp .ge 46, 3) := by decide +kernel
theorem d_Na_setUnsigned_25 : decode b_Na_setUnsigned 25 = .ok (.lload_n 3, 1) := by decide +kernel
theorem d_Na_setUnsigned_26 : decode b_Na_setUnsigned 26 = .ok (.iconst 1, 1) := by decide +kernel
theorem d_Na_setUnsigned_27 : decode b_Na_setUnsigned 27 = .ok (.lushr, 1) := by decide +kernel
theorem d_Na_setUnsigned_28 : decode b_Na_setUnsigned 28 = .ok (.ldc2_w 17, 3) := by decide +kernel
theorem d_Na_setUnsigned_31 : decode b_Na_setUnsigned 31 = .ok (.ldiv, 1) := by decide +kernel
theorem d_Na_setUnsigned_32 : decode b_Na_setUnsigned 32 = .ok (.lstore 5, 2) := by decide +kernel
theorem d_Na_setUnsigned_34 : decode b_Na_setUnsigned 34 = .ok (.aload_n 0, 1) := by decide +kernel
theorem d_Na_setUnsigned_35 : decode b_Na_setUnsigned 35 = .ok (.getfield 9, 3) := by decide +kernel
theorem d_Na_setUnsigned_38 : decode b_Na_setUnsigned 38 = .ok (.aload_n 0, 1) := by decide +kernel
theorem d_Na_setUnsigned_39 : decode b_Na_setUnsigned 39 = .ok (.getfield 13, 3) := by decide +kernel
theorem d_Na_setUnsigned_42 : decode b_Na_setUnsigned 42 = .ok (.lload_n 3, 1) := by decide +kernel
theorem d_Na_setUnsigned_43 : decode b_Na_setUnsigned 43 = .ok (.lload 5, 2) := by decide +kernel
theorem d_Na_setUnsigned_45 : decode b_Na_setUnsigned 45 = .ok (.ldc2_w 19, 3) := by decide +kernel
theorem d_Na_setUnsigned_48 : decode b_Na_setUnsigned 48 = .ok (.lmul, 1) := by decide +kernel
theorem d_Na_setUnsigned_49 : decode b_Na_setUnsigned 49 = .ok (.lsub, 1) := by decide +kernel
theorem d_Na_setUnsigned_50 : decode b_Na_setUnsigned 50 = .ok (.l2i, 1) := by decide +kernel
theorem d_Na_setUnsigned_51 : decode b_Na_setUnsigned 51 = .ok (.iastore, 1) := by decide +kernel
theorem d_Na_setUnsigned_52 : decode b_Na_setUnsigned 52 = .ok (.lload 5, 2) := by decide +kernel
theorem d_Na_setUnsigned_54 : decode b_Na_setUnsigned 54 = .ok (.lstore_n 3, 1) := by decide +kernel
theorem d_Na_setUnsigned_55 : decode b_Na_setUnsigned 55 = .ok (.aload_n 0, 1) := by decide +kernel
theorem d_Na_setUnsigned_56 : decode b_Na_setUnsigned 56 = .ok (.dup, 1) := by decide +kernel
theorem d_Na_setUnsigned_57 : decode b_Na_setUnsigned 57 = .ok (.getfield 13, 3) := by decide +kernel
theorem d_Na_setUnsigned_60 : decode b_Na_setUnsigned 60 = .ok (.iconst 1, 1) := by decide +kernel
theorem d_Na_setUnsigned_61 : decode b_Na_setUnsigned 61 = .ok (.iadd, 1) := by decide +kernel
theorem d_Na_setUnsigned_62 : decode b_Na_setUnsigned 62 = .ok (.putfield 13, 3) := by decide +kernel
theorem d_Na_setUnsigned_65 : decode b_Na_setUnsigned 65 = .ok (.goto (-58), 3) := by decide +kernel
theorem d_Na_setUnsigned_68 : decode b_Na_setUnsigned 68 = .ok (.return_, 1) := by decide +kernel
theorem d_Na_length_0 : decode b_Na_length 0 = .ok (.aload_n 0, 1) := by decide +kernel
theorem d_Na_length_1 : decode b_Na_length 1 = .ok (.getfield 13, 3) := by decide +kernel
theorem d_Na_length_4 : decode b_Na_length 4 = .ok (.ifCond .ne 5, 3) := by decide +kernel
theorem d_Na_length_7 : decode b_Na_length 7 = .ok (.iconst 0, 1) := by decide +kernel
theorem d_Na_length_8 : decode b_Na_length 8 = .ok (.ireturn, 1) := by decide +kernel
theorem d_Na_length_9 : decode b_Na_length 9 = .ok (.aload_n 0, 1) := by decide +kernel
theorem d_Na_length_10 : decode b_Na_length 10 = .ok (.getfield 13, 3) := by decide +kernel
theorem d_Na_length_13 : decode b_Na_length 13 = .ok (.iconst 1, 1) := by decide +kernel
theorem d_Na_length_14 : decode b_Na_length 14 = .ok (.isub, 1) := by decide +kernel
theorem d_Na_length_15 : decode b_Na_length 15 = .ok (.bipush 9, 2) := by decide +kernel
theorem d_Na_length_17 : decode b_Na_length 17 = .ok (.imul, 1) := by decide +kernel
theorem d_Na_length_18 : decode b_Na_length 18 = .ok (.istore_n 1, 1) := by decide +kernel
theorem d_Na_length_19 : decode b_Na_length 19 = .ok (.aload_n 0, 1) := by decide +kernel
theorem d_Na_length_20 : decode b_Na_length 20 = .ok (.getfield 9, 3) := by decide +kernel
theorem d_Na_length_23 : decode b_Na_length 23 = .ok (.aload_n 0, 1) := by decide +kernel
theorem d_Na_length_24 : decode b_Na_length 24 = .ok (.getfield 13, 3) := by decide +kernel
theorem d_Na_length_27 : decode b_Na_length 27 = .ok (.iconst 1, 1) := by decide +kernel
theorem d_Na_length_28 : decode b_Na_length 28 = .ok (.isub, 1) := by decide +kernel
theorem d_Na_length_29 : decode b_Na_length 29 = .ok (.iaload, 1) := by decide +kernel
theorem d_Na_length_30 : decode b_Na_length 30 = .ok (.istore_n 2, 1) := by decide +kernel
theorem d_Na_length_31 : decode b_Na_length 31 = .ok (.iload_n 2, 1) := by decide +kernel
theorem d_Na_length_32 : decode b_Na_length 32 = .ok (.ifCond .le 14, 3) := by decide +kernel
theorem d_Na_length_35 : decode b_Na_length 35 = .ok (.iinc 1 1, 3) := by decide +kernel
theorem d_Na_length_38 : decode b_Na_length 38 = .ok (.iload_n 2, 1) := by decide +kernel
theorem d_Na_length_39 : decode b_Na_length 39 = .ok (.bipush 10, 2) := by decide +kernel
theorem d_Na_length_41 : decode b_Na_length 41 = .ok (.idiv, 1) := by decide +kernel
theorem d_Na_length_42 : decode b_Na_length 42 = .ok (.istore_n 2, 1) := by decide +kernel
theorem d_Na_length_43 : decode b_Na_length 43 = .ok (.goto (-12), 3) := by decide +kernel
theorem d_Na_length_46 : decode b_Na_length 46 = .ok (.iload_n 1, 1) := by decide +kernel
theorem d_Na_length_47 : decode b_Na_length 47 = .ok (.ireturn, 1) := by decide +kernel
theorem d_Na_copyDigits_0 : decode b_Na_copyDigits 0 = .ok (.aload_n 0, 1) := by decide +kernel
theorem d_Na_copyDigits_1 : decode b_Na_copyDigits 1 = .ok (.invokevirtual 34, 3) := by decide +kernel
theorem d_Na_copyDigits_4 : decode b_Na_copyDigits 4 = .ok (.istore_n 2, 1) := by decide +kernel
theorem d_Na_copyDigits_5 : decode b_Na_copyDigits 5 = .ok (.iconst 0, 1) := by decide +kernel
theorem d_Na_copyDigits_6 : decode b_Na_copyDigits 6 = .ok (.istore_n 3, 1) := by decide +kernel
theorem d_Na_copyDigits_7 : decode b_Na_copyDigits 7 = .ok (.iconst 0, 1) := by decide +kernel
theorem d_Na_copyDigits_8 : decode b_Na_copyDigits 8 = .ok (.istore 4, 2) := by decide +kernel
theorem d_Na_copyDigits_10 : decode b_Na_copyDigits 10 = .ok (.iload 4, 2) := by decide +kernel
theorem d_Na_copyDigits_12 : decode b_Na_copyDigits 12 = .ok (.iload_n 2, 1) := by decide +kernel
theorem d_Na_copyDigits_13 : decode b_Na_copyDigits 13 = .ok (.if_icmp .ge 59, 3) := by decide +kernel
theorem d_Na_copyDigits_16 : decode b_Na_copyDigits 16 = .ok (.iload 4, 2) := by decide +kernel
theorem d_Na_copyDigits_18 : decode b_Na_copyDigits 18 = .ok (.bipush 9, 2) := by decide +kernel
theorem d_Na_copyDigits_20 : decode b_Na_copyDigits 20 = .ok (.irem, 1) := by decide +kernel
theorem d_Na_copyDigits_21 : decode b_Na_copyDigits 21 = .ok (.ifCond .ne 16, 3) := by decide +kernel
theorem d_Na_copyDigits_24 : decode b_Na_copyDigits 24 = .ok (.aload_n 0, 1) := by decide +kernel
theorem d_Na_copyDigits_25 : decode b_Na_copyDigits 25 = .ok (.getfield 9, 3) := by decide +kernel
theorem d_Na_copyDigits_28 : decode b_Na_copyDigits 28 = .ok (.iload 4, 2) := by decide +kernel
theorem d_Na_copyDigits_30 : decode b_Na_copyDigits 30 = .ok (.bipush 9, 2) := by decide +kernel
theorem d_Na_copyDigits_32 : decode b_Na_copyDigits 32 = .ok (.idiv, 1) := by decide +kernel
theorem d_Na_copyDigits_33 : decode b_Na_copyDigits 33 = .ok (.iaload, 1) := by decide +kernel
theorem d_Na_copyDigits_34 : decode b_Na_copyDigits 34 = .ok (.goto 7, 3) := by decide +kernel
theorem d_Na_copyDigits_37 : decode b_Na_copyDigits 37 = .ok (.iload_n 3, 1) := by decide +kernel
theorem d_Na_copyDigits_38 : decode b_Na_copyDigits 38 = .ok (.bipush 10, 2) := by decide +kernel
theorem d_Na_copyDigits_40 : decode b_Na_copyDigits 40 = .ok (.idiv, 1) := by decide +kernel
theorem d_Na_copyDigits_41 : decode b_Na_copyDigits 41 = .ok (.istore_n 3, 1) := by decide +kernel
theorem d_Na_copyDigits_42 : decode b_Na_copyDigits 42 = .ok (.iload_n 2, 1) := by decide +kernel
theorem d_Na_copyDigits_43 : decode b_Na_copyDigits 43 = .ok (.iconst 1, 1) := by decide +kernel
theorem d_Na_copyDigits_44 : decode b_Na_copyDigits 44 = .ok (.isub, 1) := by decide +kernel
theorem d_Na_copyDigits_45 : decode b_Na_copyDigits 45 = .ok (.iload 4, 2) := by decide +kernel
theorem d_Na_copyDigits_47 : decode b_Na_copyDigits 47 = .ok (.isub, 1) := by decide +kernel
theorem d_Na_copyDigits_48 : decode b_Na_copyDigits 48 = .ok (.istore 5, 2) := by decide +kernel
theorem d_Na_copyDigits_50 : decode b_Na_copyDigits 50 = .ok (.iload 5, 2) := by decide +kernel
theorem d_Na_copyDigits_52 : decode b_Na_copyDigits 52 = .ok (.aload_n 1, 1) := by decide +kernel
theorem d_Na_copyDigits_53 : decode b_Na_copyDigits 53 = .ok (.arraylength, 1) := by decide +kernel
theorem d_Na_copyDigits_54 : decode b_Na_copyDigits 54 = .ok (.if_icmp .ge 12, 3) := by decide +kernel
theorem d_Na_copyDigits_57 : decode b_Na_copyDigits 57 = .ok (.aload_n 1, 1) := by decide +kernel
theorem d_Na_copyDigits_58 : decode b_Na_copyDigits 58 = .ok (.iload 5, 2) := by decide +kernel
theorem d_Na_copyDigits_60 : decode b_Na_copyDigits 60 = .ok (.iload_n 3, 1) := by decide +kernel
theorem d_Na_copyDigits_61 : decode b_Na_copyDigits 61 = .ok (.bipush 10, 2) := by decide +kernel
theorem d_Na_copyDigits_63 : decode b_Na_copyDigits 63 = .ok (.irem, 1) := by decide +kernel
theorem d_Na_copyDigits_64 : decode b_Na_copyDigits 64 = .ok (.i2b, 1) := by decide +kernel
theorem d_Na_copyDigits_65 : decode b_Na_copyDigits 65 = .ok (.bastore, 1) := by decide +kernel
theorem d_Na_copyDigits_66 : decode b_Na_copyDigits 66 = .ok (.iinc 4 1, 3) := by decide +kernel
theorem d_Na_copyDigits_69 : decode b_Na_copyDigits 69 = .ok (.goto (-59), 3) := by decide +kernel
theorem d_Na_copyDigits_72 : decode b_Na_copyDigits 72 = .ok (.aload_n 0, 1) := by decide +kernel
theorem d_Na_copyDigits_73 : decode b_Na_copyDigits 73 = .ok (.iload_n 2, 1) := by decide +kernel
theorem d_Na_copyDigits_74 : decode b_Na_copyDigits 74 = .ok (.aload_n 1, 1) := by decide +kernel
theorem d_Na_copyDigits_75 : decode b_Na_copyDigits 75 = .ok (.arraylength, 1) := by decide +kernel
theorem d_Na_copyDigits_76 : decode b_Na_copyDigits 76 = .ok (.isub, 1) := by decide +kernel
theorem d_Na_copyDigits_77 : decode b_Na_copyDigits 77 = .ok (.invokevirtual 38, 3) := by decide +kernel
theorem d_Na_copyDigits_80 : decode b_Na_copyDigits 80 = .ok (.ireturn, 1) := by decide +kernel
theorem d_Na_hasDigitBelow_0 : decode b_Na_hasDigitBelow 0 = .ok (.iload_n 1, 1) := by decide +kernel
theorem d_Na_hasDigitBelow_1 : decode b_Na_hasDigitBelow 1 = .ok (.aload_n 0, 1) := by decide +kernel
theorem d_Na_hasDigitBelow_2 : decode b_Na_hasDigitBelow 2 = .ok (.invokevirtual 34, 3) := by decide +kernel
theorem d_Na_hasDigitBelow_5 : decode b_Na_hasDigitBelow 5 = .ok (.invokestatic 21, 3) := by decide +kernel
theorem d_Na_hasDigitBelow_8 : decode b_Na_hasDigitBelow 8 = .ok (.istore_n 2, 1) := by decide +kernel
theorem d_Na_hasDigitBelow_9 : decode b_Na_hasDigitBelow 9 = .ok (.iconst 0, 1) := by decide +kernel
theorem d_Na_hasDigitBelow_10 : decode b_Na_hasDigitBelow 10 = .ok (.istore_n 3, 1) := by decide +kernel
theorem d_Na_hasDigitBelow_11 : decode b_Na_hasDigitBelow 11 = .ok (.iconst 0, 1) := by decide +kernel
theorem d_Na_hasDigitBelow_12 : decode b_Na_hasDigitBelow 12 = .ok (.istore 4, 2) := by decide +kernel
theorem d_Na_hasDigitBelow_14 : decode b_Na_hasDigitBelow 14 = .ok (.iload 4, 2) := by decide +kernel
theorem d_Na_hasDigitBelow_16 : decode b_Na_hasDigitBelow 16 = .ok (.iload_n 2, 1) := by decide +kernel
theorem d_Na_hasDigitBelow_17 : decode b_Na_hasDigitBelow 17 = .ok (.if_icmp .ge 44, 3) := by decide +kernel
theorem d_Na_hasDigitBelow_20 : decode b_Na_hasDigitBelow 20 = .ok (.iload 4, 2) := by decide +kernel
theorem d_Na_hasDigitBelow_22 : decode b_Na_hasDigitBelow 22 = .ok (.bipush 9, 2) := by decide +kernel
theorem d_Na_hasDigitBelow_24 : decode b_Na_hasDigitBelow 24 = .ok (.irem, 1) := by decide +kernel
theorem d_Na_hasDigitBelow_25 : decode b_Na_hasDigitBelow 25 = .ok (.ifCond .ne 16, 3) := by decide +kernel
theorem d_Na_hasDigitBelow_28 : decode b_Na_hasDigitBelow 28 = .ok (.aload_n 0, 1) := by decide +kernel
theorem d_Na_hasDigitBelow_29 : decode b_Na_hasDigitBelow 29 = .ok (.getfield 9, 3) := by decide +kernel
theorem d_Na_hasDigitBelow_32 : decode b_Na_hasDigitBelow 32 = .ok (.iload 4, 2) := by decide +kernel
theorem d_Na_hasDigitBelow_34 : decode b_Na_hasDigitBelow 34 = .ok (.bipush 9, 2) := by decide +kernel
theorem d_Na_hasDigitBelow_36 : decode b_Na_hasDigitBelow 36 = .ok (.idiv, 1) := by decide +kernel
theorem d_Na_hasDigitBelow_37 : decode b_Na_hasDigitBelow 37 = .ok (.iaload, 1) := by decide +kernel
theorem d_Na_hasDigitBelow_38 : decode b_Na_hasDigitBelow 38 = .ok (.goto 7, 3) := by decide +kernel
theorem d_Na_hasDigitBelow_41 : decode b_Na_hasDigitBelow 41 = .ok (.iload_n 3, 1) := by decide +kernel
theorem d_Na_hasDigitBelow_42 : decode b_Na_hasDigitBelow 42 = .ok (.bipush 10, 2) := by decide +kernel
theorem d_Na_hasDigitBelow_44 : decode b_Na_hasDigitBelow 44 = .ok (.idiv, 1) := by decide +kernel
theorem d_Na_hasDigitBelow_45 : decode b_Na_hasDigitBelow 45 = .ok (.istore_n 3, 1) := by decide +kernel
theorem d_Na_hasDigitBelow_46 : decode b_Na_hasDigitBelow 46 = .ok (.iload_n 3, 1) := by decide +kernel
theorem d_Na_hasDigitBelow_47 : decode b_Na_hasDigitBelow 47 = .ok (.bipush 10, 2) := by decide +kernel
theorem d_Na_hasDigitBelow_49 : decode b_Na_hasDigitBelow 49 = .ok (.irem, 1) := by decide +kernel
theorem d_Na_hasDigitBelow_50 : decode b_Na_hasDigitBelow 50 = .ok (.ifCond .eq 5, 3) := by decide +kernel
theorem d_Na_hasDigitBelow_53 : decode b_Na_hasDigitBelow 53 = .ok (.iconst 1, 1) := by decide +kernel
theorem d_Na_hasDigitBelow_54 : decode b_Na_hasDigitBelow 54 = .ok (.ireturn, 1) := by decide +kernel
theorem d_Na_hasDigitBelow_55 : decode b_Na_hasDigitBelow 55 = .ok (.iinc 4 1, 3) := by decide +kernel
theorem d_Na_hasDigitBelow_58 : decode b_Na_hasDigitBelow 58 = .ok (.goto (-44), 3) := by decide +kernel
theorem d_Na_hasDigitBelow_61 : decode b_Na_hasDigitBelow 61 = .ok (.iconst 0, 1) := by decide +kernel
theorem d_Na_hasDigitBelow_62 : decode b_Na_hasDigitBelow 62 = .ok (.ireturn, 1) := by decide +kernel
theorem d_Na_setDigits_0 : decode b_Na_setDigits 0 = .ok (.iconst 0, 1) := by decide +kernel
theorem d_Na_setDigits_1 : decode b_Na_setDigits 1 = .ok (.istore_n 3, 1) := by decide +kernel
theorem d_Na_setDigits_2 : decode b_Na_setDigits 2 = .ok (.aload_n 0, 1) := by decide +kernel
theorem d_Na_setDigits_3 : decode b_Na_setDigits 3 = .ok (.iload_n 2, 1) := by decide +kernel
theorem d_Na_setDigits_4 : decode b_Na_setDigits 4 = .ok (.bipush 9, 2) := by decide +kernel
theorem d_Na_setDigits_6 : decode b_Na_setDigits 6 = .ok (.iadd, 1) := by decide +kernel
theorem d_Na_setDigits_7 : decode b_Na_setDigits 7 = .ok (.iconst 1, 1) := by decide +kernel
theorem d_Na_setDigits_8 : decode b_Na_setDigits 8 = .ok (.isub, 1) := by decide +kernel
theorem d_Na_setDigits_9 : decode b_Na_setDigits 9 = .ok (.bipush 9, 2) := by decide +kernel
theorem d_Na_setDigits_11 : decode b_Na_setDigits 11 = .ok (.idiv, 1) := by decide +kernel
theorem d_Na_setDigits_12 : decode b_Na_setDigits 12 = .ok (.putfield 13, 3) := by decide +kernel
theorem d_Na_setDigits_15 : decode b_Na_setDigits 15 = .ok (.iconst 0, 1) := by decide +kernel
theorem d_Na_setDigits_16 : decode b_Na_setDigits 16 = .ok (.istore 4, 2) := by decide +kernel
theorem d_Na_setDigits_18 : decode b_Na_setDigits 18 = .ok (.iload 4, 2) := by decide +kernel
theorem d_Na_setDigits_20 : decode b_Na_setDigits 20 = .ok (.iload_n 2, 1) := by decide +kernel
theorem d_Na_setDigits_21 : decode b_Na_setDigits 21 = .ok (.if_icmp .ge 48, 3) := by decide +kernel
theorem d_Na_setDigits_24 : decode b_Na_setDigits 24 = .ok (.iload_n 2, 1) := by decide +kernel
theorem d_Na_setDigits_25 : decode b_Na_setDigits 25 = .ok (.iconst 1, 1) := by decide +kernel
theorem d_Na_setDigits_26 : decode b_Na_setDigits 26 = .ok (.isub, 1) := by decide +kernel
theorem d_Na_setDigits_27 : decode b_Na_setDigits 27 = .ok (.iload 4, 2) := by decide +kernel
theorem d_Na_setDigits_29 : decode b_Na_setDigits 29 = .ok (.isub, 1) := by decide +kernel
theorem d_Na_setDigits_30 : decode b_Na_setDigits 30 = .ok (.istore 5, 2) := by decide +kernel
theorem d_Na_setDigits_32 : decode b_Na_setDigits 32 = .ok (.iload_n 3, 1) := by decide +kernel
theorem d_Na_setDigits_33 : decode b_Na_setDigits 33 = .ok (.bipush 10, 2) := by decide +kernel
theorem d_Na_setDigits_35 : decode b_Na_setDigits 35 = .ok (.imul, 1) := by decide +kernel
theorem d_Na_setDigits_36 : decode b_Na_setDigits 36 = .ok (.aload_n 1, 1) := by decide +kernel
theorem d_Na_setDigits_37 : decode b_Na_setDigits 37 = .ok (.iload 4, 2) := by decide +kernel
theorem d_Na_setDigits_39 : decode b_Na_setDigits 39 = .ok (.baload, 1) := by decide +kernel
theorem d_Na_setDigits_40 : decode b_Na_setDigits 40 = .ok (.iadd, 1) := by decide +kernel
theorem d_Na_setDigits_41 : decode b_Na_setDigits 41 = .ok (.istore_n 3, 1) := by decide +kernel
theorem d_Na_setDigits_42 : decode b_Na_setDigits 42 = .ok (.iload 5, 2) := by decide +kernel
theorem d_Na_setDigits_44 : decode b_Na_setDigits 44 = .ok (.bipush 9, 2) := by decide +kernel
theorem d_Na_setDigits_46 : decode b_Na_setDigits 46 = .ok (.irem, 1) := by decide +kernel
theorem d_Na_setDigits_47 : decode b_Na_setDigits 47 = .ok (.ifCond .ne 16, 3) := by decide +kernel
theorem d_Na_setDigits_50 : decode b_Na_setDigits 50 = .ok (.aload_n 0, 1) := by decide +kernel
theorem d_Na_setDigits_51 : decode b_Na_setDigits 51 = .ok (.getfield 9, 3) := by decide +kernel
theorem d_Na_setDigits_54 : decode b_Na_setDigits 54 = .ok (.iload 5, 2) := by decide +kernel
theorem d_Na_setDigits_56 : decode b_Na_setDigits 56 = .ok (.bipush 9, 2) := by decide +kernel
theorem d_Na_setDigits_58 : decode b_Na_setDigits 58 = .ok (.idiv, 1) := by decide +kernel
theorem d_Na_setDigits_59 : decode b_Na_setDigits 59 = .ok (.iload_n 3, 1) := by decide +kernel
theorem d_Na_setDigits_60 : decode b_Na_setDigits 60 = .ok (.iastore, 1) := by decide +kernel
theorem d_Na_setDigits_61 : decode b_Na_setDigits 61 = .ok (.iconst 0, 1) := by decide +kernel
theorem d_Na_setDigits_62 : decode b_Na_setDigits 62 = .ok (.istore_n 3, 1) := by decide +kernel
theorem d_Na_setDigits_63 : decode b_Na_setDigits 63 = .ok (.iinc 4 1, 3) := by decide +kernel
theorem d_Na_setDigits_66 : decode b_Na_setDigits 66 = .ok (.goto (-48), 3) := by decide +kernel
theorem d_Na_setDigits_69 : decode b_Na_setDigits 69 = .ok (.return_, 1) := by decide +kernel
theorem d_Na_timesTwoTo_0 : decode b_Na_timesTwoTo 0 = .ok (.iload_n 1, 1) := by decide +kernel
theorem d_Na_timesTwoTo_1 : decode b_Na_timesTwoTo 1 = .ok (.istore_n 2, 1) := by decide +kernel
theorem d_Na_timesTwoTo_2 : decode b_Na_timesTwoTo 2 = .ok (.iload_n 2, 1) := by decide +kernel
theorem d_Na_timesTwoTo_3 : decode b_Na_timesTwoTo 3 = .ok (.ifCond .le 21, 3) := by decide +kernel
theorem d_Na_timesTwoTo_6 : decode b_Na_timesTwoTo 6 = .ok (.aload_n 0, 1) := by decide +kernel
theorem d_Na_timesTwoTo_7 : decode b_Na_timesTwoTo 7 = .ok (.iconst 1, 1) := by decide +kernel
theorem d_Na_timesTwoTo_8 : decode b_Na_timesTwoTo 8 = .ok (.iload_n 2, 1) := by decide +kernel
theorem d_Na_timesTwoTo_9 : decode b_Na_timesTwoTo 9 = .ok (.bipush 29, 2) := by decide +kernel
theorem d_Na_timesTwoTo_11 : decode b_Na_timesTwoTo 11 = .ok (.invokestatic 21, 3) := by decide +kernel
theorem d_Na_timesTwoTo_14 : decode b_Na_timesTwoTo 14 = .ok (.ishl, 1) := by decide +kernel
theorem d_Na_timesTwoTo_15 : decode b_Na_timesTwoTo 15 = .ok (.invokevirtual 27, 3) := by decide +kernel
theorem d_Na_timesTwoTo_18 : decode b_Na_timesTwoTo 18 = .ok (.iinc 2 (-29), 3) := by decide +kernel
theorem d_Na_timesTwoTo_21 : decode b_Na_timesTwoTo 21 = .ok (.goto (-19), 3) := by decide +kernel
theorem d_Na_timesTwoTo_24 : decode b_Na_timesTwoTo 24 = .ok (.iload_n 1, 1) := by decide +kernel
theorem d_Na_timesTwoTo_25 : decode b_Na_timesTwoTo 25 = .ok (.ineg, 1) := by decide +kernel
theorem d_Na_timesTwoTo_26 : decode b_Na_timesTwoTo 26 = .ok (.istore_n 2, 1) := by decide +kernel
theorem d_Na_timesTwoTo_27 : decode b_Na_timesTwoTo 27 = .ok (.iload_n 2, 1) := by decide +kernel
theorem d_Na_timesTwoTo_28 : decode b_Na_timesTwoTo 28 = .ok (.ifCond .le 23, 3) := by decide +kernel
theorem d_Na_timesTwoTo_31 : decode b_Na_timesTwoTo 31 = .ok (.aload_n 0, 1) := by decide +kernel
theorem d_Na_timesTwoTo_32 : decode b_Na_timesTwoTo 32 = .ok (.getstatic 31, 3) := by decide +kernel
theorem d_Na_timesTwoTo_35 : decode b_Na_timesTwoTo 35 = .ok (.iload_n 2, 1) := by decide +kernel
theorem d_Na_timesTwoTo_36 : decode b_Na_timesTwoTo 36 = .ok (.bipush 12, 2) := by decide +kernel
theorem d_Na_timesTwoTo_38 : decode b_Na_timesTwoTo 38 = .ok (.invokestatic 21, 3) := by decide +kernel
theorem d_Na_timesTwoTo_41 : decode b_Na_timesTwoTo 41 = .ok (.iaload, 1) := by decide +kernel
theorem d_Na_timesTwoTo_42 : decode b_Na_timesTwoTo 42 = .ok (.invokevirtual 27, 3) := by decide +kernel
theorem d_Na_timesTwoTo_45 : decode b_Na_timesTwoTo 45 = .ok (.iinc 2 (-12), 3) := by decide +kernel
theorem d_Na_timesTwoTo_48 : decode b_Na_timesTwoTo 48 = .ok (.goto (-21), 3) := by decide +kernel
theorem d_Na_timesTwoTo_51 : decode b_Na_timesTwoTo 51 = .ok (.iload_n 1, 1) := by decide +kernel
theorem d_Na_timesTwoTo_52 : decode b_Na_timesTwoTo 52 = .ok (.iconst 0, 1) := by decide +kernel
theorem d_Na_timesTwoTo_53 : decode b_Na_timesTwoTo 53 = .ok (.invokestatic 21, 3) := by decide +kernel
theorem d_Na_timesTwoTo_56 : decode b_Na_timesTwoTo 56 = .ok (.ireturn, 1) := by decide +kernel
theorem d_Na_times_0 : decode b_Na_times 0 = .ok (.lconst 0, 1) := by decide +kernel
theorem d_Na_times_1 : decode b_Na_times 1 = .ok (.lstore_n 2, 1) := by decide +kernel
theorem d_Na_times_2 : decode b_Na_times 2 = .ok (.iconst 0, 1) := by decide +kernel
theorem d_Na_times_3 : decode b_Na_times 3 = .ok (.istore 4, 2) := by decide +kernel
theorem d_Na_times_5 : decode b_Na_times 5 = .ok (.iload 4, 2) := by decide +kernel
theorem d_Na_times_7 : decode b_Na_times 7 = .ok (.aload_n 0, 1) := by decide +kernel
theorem d_Na_times_8 : decode b_Na_times 8 = .ok (.getfield 13, 3) := by decide +kernel
theorem d_Na_times_11 : decode b_Na_times 11 = .ok (.if_icmp .ge 47, 3) := by decide +kernel
theorem d_Na_times_14 : decode b_Na_times 14 = .ok (.aload_n 0, 1) := by decide +kernel
theorem d_Na_times_15 : decode b_Na_times 15 = .ok (.getfield 9, 3) := by decide +kernel
theorem d_Na_times_18 : decode b_Na_times 18 = .ok (.iload 4, 2) := by decide +kernel
theorem d_Na_times_20 : decode b_Na_times 20 = .ok (.iaload, 1) := by decide +kernel
theorem d_Na_times_21 : decode b_Na_times 21 = .ok (.i2l, 1) := by decide +kernel
theorem d_Na_times_22 : decode b_Na_times 22 = .ok (.iload_n 1, 1) := by decide +kernel
theorem d_Na_times_23 : decode b_Na_times 23 = .ok (.i2l, 1) := by decide +kernel
theorem d_Na_times_24 : decode b_Na_times 24 = .ok (.lmul, 1) := by decide +kernel
theorem d_Na_times_25 : decode b_Na_times 25 = .ok (.lload_n 2, 1) := by decide +kernel
theorem d_Na_times_26 : decode b_Na_times 26 = .ok (.ladd, 1) := by decide +kernel
theorem d_Na_times_27 : decode b_Na_times 27 = .ok (.lstore 5, 2) := by decide +kernel
theorem d_Na_times_29 : decode b_Na_times 29 = .ok (.lload 5, 2) := by decide +kernel
theorem d_Na_times_31 : decode b_Na_times 31 = .ok (.ldc2_w 19, 3) := by decide +kernel
theorem d_Na_times_34 : decode b_Na_times 34 = .ok (.ldiv, 1) := by decide +kernel
theorem d_Na_times_35 : decode b_Na_times 35 = .ok (.lstore_n 2, 1) := by decide +kernel
theorem d_Na_times_36 : decode b_Na_times 36 = .ok (.aload_n 0, 1) := by decide +kernel
theorem d_Na_times_37 : decode b_Na_times 37 = .ok (.getfield 9, 3) := by decide +kernel
theorem d_Na_times_40 : decode b_Na_times 40 = .ok (.iload 4, 2) := by decide +kernel
theorem d_Na_times_42 : decode b_Na_times 42 = .ok (.lload 5, 2) := by decide +kernel
theorem d_Na_times_44 : decode b_Na_times 44 = .ok (.lload_n 2, 1) := by decide +kernel
theorem d_Na_times_45 : decode b_Na_times 45 = .ok (.ldc2_w 19, 3) := by decide +kernel
theorem d_Na_times_48 : decode b_Na_times 48 = .ok (.lmul, 1) := by decide +kernel
theorem d_Na_times_49 : decode b_Na_times 49 = .ok (.lsub, 1) := by decide +kernel
theorem d_Na_times_50 : decode b_Na_times 50 = .ok (.l2i, 1) := by decide +kernel
theorem d_Na_times_51 : decode b_Na_times 51 = .ok (.iastore, 1) := by decide +kernel
theorem d_Na_times_52 : decode b_Na_times 52 = .ok (.iinc 4 1, 3) := by decide +kernel
theorem d_Na_times_55 : decode b_Na_times 55 = .ok (.goto (-50), 3) := by decide +kernel
theorem d_Na_times_58 : decode b_Na_times 58 = .ok (.lload_n 2, 1) := by decide +kernel
theorem d_Na_times_59 : decode b_Na_times 59 = .ok (.lconst 0, 1) := by decide +kernel
theorem d_Na_times_60 : decode b_Na_times 60 = .ok (.lcmp, 1) := by decide +kernel
theorem d_Na_times_61 : decode b_Na_times 61 = .ok (.ifCond .eq 36, 3) := by decide +kernel
theorem d_Na_times_64 : decode b_Na_times 64 = .ok (.aload_n 0, 1) := by decide +kernel
theorem d_Na_times_65 : decode b_Na_times 65 = .ok (.getfield 13, 3) := by decide +kernel
theorem d_Na_times_68 : decode b_Na_times 68 = .ok (.aload_n 0, 1) := by decide +kernel
theorem d_Na_times_69 : decode b_Na_times 69 = .ok (.getfield 9, 3) := by decide +kernel
theorem d_Na_times_72 : decode b_Na_times 72 = .ok (.arraylength, 1) := by decide +kernel
theorem d_Na_times_73 : decode b_Na_times 73 = .ok (.if_icmp .ge 24, 3) := by decide +kernel
theorem d_Na_times_76 : decode b_Na_times 76 = .ok (.aload_n 0, 1) := by decide +kernel
theorem d_Na_times_77 : decode b_Na_times 77 = .ok (.getfield 9, 3) := by decide +kernel
theorem d_Na_times_80 : decode b_Na_times 80 = .ok (.aload_n 0, 1) := by decide +kernel
theorem d_Na_times_81 : decode b_Na_times 81 = .ok (.getfield 13, 3) := by decide +kernel
theorem d_Na_times_84 : decode b_Na_times 84 = .ok (.lload_n 2, 1) := by decide +kernel
theorem d_Na_times_85 : decode b_Na_times 85 = .ok (.l2i, 1) := by decide +kernel
theorem d_Na_times_86 : decode b_Na_times 86 = .ok (.iastore, 1) := by decide +kernel
theorem d_Na_times_87 : decode b_Na_times 87 = .ok (.aload_n 0, 1) := by decide +kernel
theorem d_Na_times_88 : decode b_Na_times 88 = .ok (.dup, 1) := by decide +kernel
theorem d_Na_times_89 : decode b_Na_times 89 = .ok (.getfield 13, 3) := by decide +kernel
theorem d_Na_times_92 : decode b_Na_times 92 = .ok (.iconst 1, 1) := by decide +kernel
theorem d_Na_times_93 : decode b_Na_times 93 = .ok (.iadd, 1) := by decide +kernel
theorem d_Na_times_94 : decode b_Na_times 94 = .ok (.putfield 13, 3) := by decide +kernel
theorem d_Na_times_97 : decode b_Na_times 97 = .ok (.return_, 1) := by decide +kernel
theorem d_Na_firstDigits_0 : decode b_Na_firstDigits 0 = .ok (.aload_n 0, 1) := by decide +kernel
theorem d_Na_firstDigits_1 : decode b_Na_firstDigits 1 = .ok (.invokevirtual 34, 3) := by decide +kernel
theorem d_Na_firstDigits_4 : decode b_Na_firstDigits 4 = .ok (.istore_n 2, 1) := by decide +kernel
theorem d_Na_firstDigits_5 : decode b_Na_firstDigits 5 = .ok (.lconst 0, 1) := by decide +kernel
theorem d_Na_firstDigits_6 : decode b_Na_firstDigits 6 = .ok (.lstore_n 3, 1) := by decide +kernel
theorem d_Na_firstDigits_7 : decode b_Na_firstDigits 7 = .ok (.iconst 0, 1) := by decide +kernel
theorem d_Na_firstDigits_8 : decode b_Na_firstDigits 8 = .ok (.istore 5, 2) := by decide +kernel
theorem d_Na_firstDigits_10 : decode b_Na_firstDigits 10 = .ok (.iload 5, 2) := by decide +kernel
theorem d_Na_firstDigits_12 : decode b_Na_firstDigits 12 = .ok (.iload_n 1, 1) := by decide +kernel
theorem d_Na_firstDigits_13 : decode b_Na_firstDigits 13 = .ok (.if_icmp .ge 37, 3) := by decide +kernel
theorem d_Na_firstDigits_16 : decode b_Na_firstDigits 16 = .ok (.lload_n 3, 1) := by decide +kernel
theorem d_Na_firstDigits_17 : decode b_Na_firstDigits 17 = .ok (.ldc2_w 42, 3) := by decide +kernel
theorem d_Na_firstDigits_20 : decode b_Na_firstDigits 20 = .ok (.lmul, 1) := by decide +kernel
theorem d_Na_firstDigits_21 : decode b_Na_firstDigits 21 = .ok (.iload 5, 2) := by decide +kernel
theorem d_Na_firstDigits_23 : decode b_Na_firstDigits 23 = .ok (.iload_n 2, 1) := by decide +kernel
theorem d_Na_firstDigits_24 : decode b_Na_firstDigits 24 = .ok (.if_icmp .ge 16, 3) := by decide +kernel
theorem d_Na_firstDigits_27 : decode b_Na_firstDigits 27 = .ok (.aload_n 0, 1) := by decide +kernel
theorem d_Na_firstDigits_28 : decode b_Na_firstDigits 28 = .ok (.iload_n 2, 1) := by decide +kernel
theorem d_Na_firstDigits_29 : decode b_Na_firstDigits 29 = .ok (.iconst 1, 1) := by decide +kernel
theorem d_Na_firstDigits_30 : decode b_Na_firstDigits 30 = .ok (.isub, 1) := by decide +kernel
theorem d_Na_firstDigits_31 : decode b_Na_firstDigits 31 = .ok (.iload 5, 2) := by decide +kernel
theorem d_Na_firstDigits_33 : decode b_Na_firstDigits 33 = .ok (.isub, 1) := by decide +kernel
theorem d_Na_firstDigits_34 : decode b_Na_firstDigits 34 = .ok (.invokevirtual 44, 3) := by decide +kernel
theorem d_Na_firstDigits_37 : decode b_Na_firstDigits 37 = .ok (.goto 4, 3) := by decide +kernel
theorem d_Na_firstDigits_40 : decode b_Na_firstDigits 40 = .ok (.iconst 0, 1) := by decide +kernel
theorem d_Na_firstDigits_41 : decode b_Na_firstDigits 41 = .ok (.i2l, 1) := by decide +kernel
theorem d_Na_firstDigits_42 : decode b_Na_firstDigits 42 = .ok (.ladd, 1) := by decide +kernel
theorem d_Na_firstDigits_43 : decode b_Na_firstDigits 43 = .ok (.lstore_n 3, 1) := by decide +kernel
theorem d_Na_firstDigits_44 : decode b_Na_firstDigits 44 = .ok (.iinc 5 1, 3) := by decide +kernel
theorem d_Na_firstDigits_47 : decode b_Na_firstDigits 47 = .ok (.goto (-37), 3) := by decide +kernel
theorem d_Na_firstDigits_50 : decode b_Na_firstDigits 50 = .ok (.lload_n 3, 1) := by decide +kernel
theorem d_Na_firstDigits_51 : decode b_Na_firstDigits 51 = .ok (.lreturn, 1) := by decide +kernel
theorem d_Na_digitAt_0 : decode b_Na_digitAt 0 = .ok (.aload_n 0, 1) := by decide +kernel
theorem d_Na_digitAt_1 : decode b_Na_digitAt 1 = .ok (.getfield 9, 3) := by decide +kernel
theorem d_Na_digitAt_4 : decode b_Na_digitAt 4 = .ok (.iload_n 1, 1) := by decide +kernel
theorem d_Na_digitAt_5 : decode b_Na_digitAt 5 = .ok (.bipush 9, 2) := by decide +kernel
theorem d_Na_digitAt_7 : decode b_Na_digitAt 7 = .ok (.idiv, 1) := by decide +kernel
theorem d_Na_digitAt_8 : decode b_Na_digitAt 8 = .ok (.iaload, 1) := by decide +kernel
theorem d_Na_digitAt_9 : decode b_Na_digitAt 9 = .ok (.istore_n 2, 1) := by decide +kernel
theorem d_Na_digitAt_10 : decode b_Na_digitAt 10 = .ok (.iload_n 1, 1) := by decide +kernel
theorem d_Na_digitAt_11 : decode b_Na_digitAt 11 = .ok (.bipush 9, 2) := by decide +kernel
theorem d_Na_digitAt_13 : decode b_Na_digitAt 13 = .ok (.irem, 1) := by decide +kernel
theorem d_Na_digitAt_14 : decode b_Na_digitAt 14 = .ok (.istore_n 3, 1) := by decide +kernel
theorem d_Na_digitAt_15 : decode b_Na_digitAt 15 = .ok (.iload_n 3, 1) := by decide +kernel
theorem d_Na_digitAt_16 : decode b_Na_digitAt 16 = .ok (.ifCond .le 14, 3) := by decide +kernel
theorem d_Na_digitAt_19 : decode b_Na_digitAt 19 = .ok (.iload_n 2, 1) := by decide +kernel
theorem d_Na_digitAt_20 : decode b_Na_digitAt 20 = .ok (.bipush 10, 2) := by decide +kernel
theorem d_Na_digitAt_22 : decode b_Na_digitAt 22 = .ok (.idiv, 1) := by decide +kernel
theorem d_Na_digitAt_23 : decode b_Na_digitAt 23 = .ok (.istore_n 2, 1) := by decide +kernel
theorem d_Na_digitAt_24 : decode b_Na_digitAt 24 = .ok (.iinc 3 (-1), 3) := by decide +kernel
theorem d_Na_digitAt_27 : decode b_Na_digitAt 27 = .ok (.goto (-12), 3) := by decide +kernel
theorem d_Na_digitAt_30 : decode b_Na_digitAt 30 = .ok (.iload_n 2, 1) := by decide +kernel
theorem d_Na_digitAt_31 : decode b_Na_digitAt 31 = .ok (.bipush 10, 2) := by decide +kernel
theorem d_Na_digitAt_33 : decode b_Na_digitAt 33 = .ok (.irem, 1) := by decide +kernel
theorem d_Na_digitAt_34 : decode b_Na_digitAt 34 = .ok (.ireturn, 1) := by decide +kernel
end
section
theorem d_Ed_init_0 : decode b_Ed_init 0 = .ok (.aload_n 0, 1) := by decide +kernel
theorem d_Ed_init_1 : decode b_Ed_init 1 = .ok (.invokespecial 1, 3) := by decide +kernel
theorem d_Ed_init_4 : decode b_Ed_init 4 = .ok (.aload_n 0, 1) := by decide +kernel
theorem d_Ed_init_5 : decode b_Ed_init 5 = .ok (.sipush 1200, 3) := by decide +kernel
theorem d_Ed_init_8 : decode b_Ed_init 8 = .ok (.newarray .byte, 2) := by decide +kernel
theorem d_Ed_init_10 : decode b_Ed_init 10 = .ok (.putfield 9, 3) := by decide +kernel
theorem d_Ed_init_13 : decode b_Ed_init 13 = .ok (.aload_n 0, 1) := by decide +kernel
theorem d_Ed_init_14 : decode b_Ed_init 14 = .ok (.new 13, 3) := by decide +kernel
theorem d_Ed_init_17 : decode b_Ed_init 17 = .ok (.dup, 1) := by decide +kernel
theorem d_Ed_init_18 : decode b_Ed_init 18 = .ok (.invokespecial 15, 3) := by decide +kernel
theorem d_Ed_init_21 : decode b_Ed_init 21 = .ok (.putfield 16, 3) := by decide +kernel
theorem d_Ed_init_24 : decode b_Ed_init 24 = .ok (.aload_n 0, 1) := by decide +kernel
theorem d_Ed_init_25 : decode b_Ed_init 25 = .ok (.iconst 0, 1) := by decide +kernel
theorem d_Ed_init_26 : decode b_Ed_init 26 = .ok (.putfield 20, 3) := by decide +kernel
theorem d_Ed_init_29 : decode b_Ed_init 29 = .ok (.aload_n 0, 1) := by decide +kernel
theorem d_Ed_init_30 : decode b_Ed_init 30 = .ok (.iconst 0, 1) := by decide +kernel
theorem d_Ed_init_31 : decode b_Ed_init 31 = .ok (.putfield 24, 3) := by decide +kernel
theorem d_Ed_init_34 : decode b_Ed_init 34 = .ok (.aload_n 0, 1) := by decide +kernel
theorem d_Ed_init_35 : decode b_Ed_init 35 = .ok (.iconst 0, 1) := by decide +kernel
theorem d_Ed_init_36 : decode b_Ed_init 36 = .ok (.putfield 27, 3) := by decide +kernel
theorem d_Ed_init_39 : decode b_Ed_init 39 = .ok (.return_, 1) := by decide +kernel
theorem d_Ed_whole_0 : decode b_Ed_whole 0 = .ok (.aload_n 0, 1) := by decide +kernel
theorem d_Ed_whole_1 : decode b_Ed_whole 1 = .ok (.getfield 16, 3) := by decide +kernel
theorem d_Ed_whole_4 : decode b_Ed_whole 4 = .ok (.lload_n 1, 1) := by decide +kernel
theorem d_Ed_whole_5 : decode b_Ed_whole 5 = .ok (.invokevirtual 31, 3) := by decide +kernel
theorem d_Ed_whole_8 : decode b_Ed_whole 8 = .ok (.aload_n 0, 1) := by decide +kernel
theorem d_Ed_whole_9 : decode b_Ed_whole 9 = .ok (.iconst 0, 1) := by decide +kernel
theorem d_Ed_whole_10 : decode b_Ed_whole 10 = .ok (.invokevirtual 35, 3) := by decide +kernel
theorem d_Ed_whole_13 : decode b_Ed_whole 13 = .ok (.aload_n 0, 1) := by decide +kernel
theorem d_Ed_whole_14 : decode b_Ed_whole 14 = .ok (.getfield 20, 3) := by decide +kernel
theorem d_Ed_whole_17 : decode b_Ed_whole 17 = .ok (.ireturn, 1) := by decide +kernel
theorem d_Ed_giveScratch_0 : decode b_Ed_giveScratch 0 = .ok (.aload_n 0, 1) := by decide +kernel
theorem d_Ed_giveScratch_1 : decode b_Ed_giveScratch 1 = .ok (.getfield 16, 3) := by decide +kernel
theorem d_Ed_giveScratch_4 : decode b_Ed_giveScratch 4 = .ok (.invokevirtual 107, 3) := by decide +kernel
theorem d_Ed_giveScratch_7 : decode b_Ed_giveScratch 7 = .ok (.istore_n 2, 1) := by decide +kernel
theorem d_Ed_giveScratch_8 : decode b_Ed_giveScratch 8 = .ok (.aload_n 0, 1) := by decide +kernel
theorem d_Ed_giveScratch_9 : decode b_Ed_giveScratch 9 = .ok (.aload_n 0, 1) := by decide +kernel
theorem d_Ed_giveScratch_10 : decode b_Ed_giveScratch 10 = .ok (.getfield 16, 3) := by decide +kernel
theorem d_Ed_giveScratch_13 : decode b_Ed_giveScratch 13 = .ok (.aload_n 0, 1) := by decide +kernel
theorem d_Ed_giveScratch_14 : decode b_Ed_giveScratch 14 = .ok (.getfield 9, 3) := by decide +kernel
theorem d_Ed_giveScratch_17 : decode b_Ed_giveScratch 17 = .ok (.invokevirtual 111, 3) := by decide +kernel
theorem d_Ed_giveScratch_20 : decode b_Ed_giveScratch 20 = .ok (.putfield 27, 3) := by decide +kernel
theorem d_Ed_giveScratch_23 : decode b_Ed_giveScratch 23 = .ok (.aload_n 0, 1) := by decide +kernel
theorem d_Ed_giveScratch_24 : decode b_Ed_giveScratch 24 = .ok (.iload_n 2, 1) := by decide +kernel
theorem d_Ed_giveScratch_25 : decode b_Ed_giveScratch 25 = .ok (.sipush 1200, 3) := by decide +kernel
theorem d_Ed_giveScratch_28 : decode b_Ed_giveScratch 28 = .ok (.invokestatic 115, 3) := by decide +kernel
theorem d_Ed_giveScratch_31 : decode b_Ed_giveScratch 31 = .ok (.putfield 20, 3) := by decide +kernel
theorem d_Ed_giveScratch_34 : decode b_Ed_giveScratch 34 = .ok (.aload_n 0, 1) := by decide +kernel
theorem d_Ed_giveScratch_35 : decode b_Ed_giveScratch 35 = .ok (.iload_n 2, 1) := by decide +kernel
theorem d_Ed_giveScratch_36 : decode b_Ed_giveScratch 36 = .ok (.iload_n 1, 1) := by decide +kernel
theorem d_Ed_giveScratch_37 : decode b_Ed_giveScratch 37 = .ok (.iadd, 1) := by decide +kernel
theorem d_Ed_giveScratch_38 : decode b_Ed_giveScratch 38 = .ok (.putfield 24, 3) := by decide +kernel
theorem d_Ed_giveScratch_41 : decode b_Ed_giveScratch 41 = .ok (.aload_n 0, 1) := by decide +kernel
theorem d_Ed_giveScratch_42 : decode b_Ed_giveScratch 42 = .ok (.invokevirtual 121, 3) := by decide +kernel
theorem d_Ed_giveScratch_45 : decode b_Ed_giveScratch 45 = .ok (.return_, 1) := by decide +kernel
theorem d_Ed_dropZerosBehind_0 : decode b_Ed_dropZerosBehind 0 = .ok (.aload_n 0, 1) := by decide +kernel
theorem d_Ed_dropZerosBehind_1 : decode b_Ed_dropZerosBehind 1 = .ok (.getfield 20, 3) := by decide +kernel
theorem d_Ed_dropZerosBehind_4 : decode b_Ed_dropZerosBehind 4 = .ok (.ifCond .le 30, 3) := by decide +kernel
theorem d_Ed_dropZerosBehind_7 : decode b_Ed_dropZerosBehind 7 = .ok (.aload_n 0, 1) := by decide +kernel
theorem d_Ed_dropZerosBehind_8 : decode b_Ed_dropZerosBehind 8 = .ok (.getfield 9, 3) := by decide +kernel
theorem d_Ed_dropZerosBehind_11 : decode b_Ed_dropZerosBehind 11 = .ok (.aload_n 0, 1) := by decide +kernel
theorem d_Ed_dropZerosBehind_12 : decode b_Ed_dropZerosBehind 12 = .ok (.getfield 20, 3) := by decide +kernel
theorem d_Ed_dropZerosBehind_15 : decode b_Ed_dropZerosBehind 15 = .ok (.iconst 1, 1) := by decide +kernel
theorem d_Ed_dropZerosBehind_16 : decode b_Ed_dropZerosBehind 16 = .ok (.isub, 1) := by decide +kernel
theorem d_Ed_dropZerosBehind_17 : decode b_Ed_dropZerosBehind 17 = .ok (.baload, 1) := by decide +kernel
theorem d_Ed_dropZerosBehind_18 : decode b_Ed_dropZerosBehind 18 = .ok (.ifCond .ne 16, 3) := by decide +kernel
theorem d_Ed_dropZerosBehind_21 : decode b_Ed_dropZerosBehind 21 = .ok (.aload_n 0, 1) := by decide +kernel
theorem d_Ed_dropZerosBehind_22 : decode b_Ed_dropZerosBehind 22 = .ok (.dup, 1) := by decide +kernel
theorem d_Ed_dropZerosBehind_23 : decode b_Ed_dropZerosBehind 23 = .ok (.getfield 20, 3) := by decide +kernel
theorem d_Ed_dropZerosBehind_26 : decode b_Ed_dropZerosBehind 26 = .ok (.iconst 1, 1) := by decide +kernel
theorem d_Ed_dropZerosBehind_27 : decode b_Ed_dropZerosBehind 27 = .ok (.isub, 1) := by decide +kernel
theorem d_Ed_dropZerosBehind_28 : decode b_Ed_dropZerosBehind 28 = .ok (.putfield 20, 3) := by decide +kernel
theorem d_Ed_dropZerosBehind_31 : decode b_Ed_dropZerosBehind 31 = .ok (.goto (-31), 3) := by decide +kernel
theorem d_Ed_dropZerosBehind_34 : decode b_Ed_dropZerosBehind 34 = .ok (.aload_n 0, 1) := by decide +kernel
theorem d_Ed_dropZerosBehind_35 : decode b_Ed_dropZerosBehind 35 = .ok (.getfield 20, 3) := by decide +kernel
theorem d_Ed_dropZerosBehind_38 : decode b_Ed_dropZerosBehind 38 = .ok (.ifCond .ne 8, 3) := by decide +kernel
theorem d_Ed_dropZerosBehind_41 : decode b_Ed_dropZerosBehind 41 = .ok (.aload_n 0, 1) := by decide +kernel
theorem d_Ed_dropZerosBehind_42 : decode b_Ed_dropZerosBehind 42 = .ok (.iconst 0, 1) := by decide +kernel
theorem d_Ed_dropZerosBehind_43 : decode b_Ed_dropZerosBehind 43 = .ok (.putfield 24, 3) := by decide +kernel
theorem d_Ed_dropZerosBehind_46 : decode b_Ed_dropZerosBehind 46 = .ok (.return_, 1) := by decide +kernel
theorem d_Ed_digit_0 : decode b_Ed_digit 0 = .ok (.aload_n 0, 1) := by decide +kernel
theorem d_Ed_digit_1 : decode b_Ed_digit 1 = .ok (.getfield 24, 3) := by decide +kernel
theorem d_Ed_digit_4 : decode b_Ed_digit 4 = .ok (.i2l, 1) := by decide +kernel
theorem d_Ed_digit_5 : decode b_Ed_digit 5 = .ok (.iload_n 1, 1) := by decide +kernel
theorem d_Ed_digit_6 : decode b_Ed_digit 6 = .ok (.i2l, 1) := by decide +kernel
theorem d_Ed_digit_7 : decode b_Ed_digit 7 = .ok (.ladd, 1) := by decide +kernel
theorem d_Ed_digit_8 : decode b_Ed_digit 8 = .ok (.lstore_n 2, 1) := by decide +kernel
theorem d_Ed_digit_9 : decode b_Ed_digit 9 = .ok (.lload_n 2, 1) := by decide +kernel
theorem d_Ed_digit_10 : decode b_Ed_digit 10 = .ok (.lconst 0, 1) := by decide +kernel
theorem d_Ed_digit_11 : decode b_Ed_digit 11 = .ok (.lcmp, 1) := by decide +kernel
theorem d_Ed_digit_12 : decode b_Ed_digit 12 = .ok (.ifCond .lt 23, 3) := by decide +kernel
theorem d_Ed_digit_15 : decode b_Ed_digit 15 = .ok (.lload_n 2, 1) := by decide +kernel
theorem d_Ed_digit_16 : decode b_Ed_digit 16 = .ok (.aload_n 0, 1) := by decide +kernel
theorem d_Ed_digit_17 : decode b_Ed_digit 17 = .ok (.getfield 20, 3) := by decide +kernel
theorem d_Ed_digit_20 : decode b_Ed_digit 20 = .ok (.i2l, 1) := by decide +kernel
theorem d_Ed_digit_21 : decode b_Ed_digit 21 = .ok (.lcmp, 1) := by decide +kernel
theorem d_Ed_digit_22 : decode b_Ed_digit 22 = .ok (.ifCond .ge 13, 3) := by decide +kernel
theorem d_Ed_digit_25 : decode b_Ed_digit 25 = .ok (.aload_n 0, 1) := by decide +kernel
theorem d_Ed_digit_26 : decode b_Ed_digit 26 = .ok (.getfield 9, 3) := by decide +kernel
theorem d_Ed_digit_29 : decode b_Ed_digit 29 = .ok (.lload_n 2, 1) := by decide +kernel
theorem d_Ed_digit_30 : decode b_Ed_digit 30 = .ok (.l2i, 1) := by decide +kernel
theorem d_Ed_digit_31 : decode b_Ed_digit 31 = .ok (.baload, 1) := by decide +kernel
theorem d_Ed_digit_32 : decode b_Ed_digit 32 = .ok (.goto 4, 3) := by decide +kernel
theorem d_Ed_digit_35 : decode b_Ed_digit 35 = .ok (.iconst 0, 1) := by decide +kernel
theorem d_Ed_digit_36 : decode b_Ed_digit 36 = .ok (.ireturn, 1) := by decide +kernel
theorem d_Ed_nearest_0 : decode b_Ed_nearest 0 = .ok (.aload_n 0, 1) := by decide +kernel
theorem d_Ed_nearest_1 : decode b_Ed_nearest 1 = .ok (.getfield 16, 3) := by decide +kernel
theorem d_Ed_nearest_4 : decode b_Ed_nearest 4 = .ok (.aload_n 0, 1) := by decide +kernel
theorem d_Ed_nearest_5 : decode b_Ed_nearest 5 = .ok (.getfield 9, 3) := by decide +kernel
theorem d_Ed_nearest_8 : decode b_Ed_nearest 8 = .ok (.aload_n 0, 1) := by decide +kernel
theorem d_Ed_nearest_9 : decode b_Ed_nearest 9 = .ok (.getfield 20, 3) := by decide +kernel
theorem d_Ed_nearest_12 : decode b_Ed_nearest 12 = .ok (.invokevirtual 65, 3) := by decide +kernel
theorem d_Ed_nearest_15 : decode b_Ed_nearest 15 = .ok (.aload_n 0, 1) := by decide +kernel
theorem d_Ed_nearest_16 : decode b_Ed_nearest 16 = .ok (.aload_n 0, 1) := by decide +kernel
theorem d_Ed_nearest_17 : decode b_Ed_nearest 17 = .ok (.getfield 24, 3) := by decide +kernel
theorem d_Ed_nearest_20 : decode b_Ed_nearest 20 = .ok (.aload_n 0, 1) := by decide +kernel
theorem d_Ed_nearest_21 : decode b_Ed_nearest 21 = .ok (.getfield 20, 3) := by decide +kernel
theorem d_Ed_nearest_24 : decode b_Ed_nearest 24 = .ok (.isub, 1) := by decide +kernel
theorem d_Ed_nearest_25 : decode b_Ed_nearest 25 = .ok (.aload_n 0, 1) := by decide +kernel
theorem d_Ed_nearest_26 : decode b_Ed_nearest 26 = .ok (.getfield 27, 3) := by decide +kernel
theorem d_Ed_nearest_29 : decode b_Ed_nearest 29 = .ok (.iload_n 1, 1) := by decide +kernel
theorem d_Ed_nearest_30 : decode b_Ed_nearest 30 = .ok (.invokestatic 39, 3) := by decide +kernel
theorem d_Ed_nearest_33 : decode b_Ed_nearest 33 = .ok (.invokevirtual 79, 3) := by decide +kernel
theorem d_Ed_nearest_36 : decode b_Ed_nearest 36 = .ok (.lreturn, 1) := by decide +kernel
theorem d_Ed_formatOf_0 : decode b_Ed_formatOf 0 = .ok (.iload_n 0, 1) := by decide +kernel
theorem d_Ed_formatOf_1 : decode b_Ed_formatOf 1 = .ok (.ifCond .eq 9, 3) := by decide +kernel
theorem d_Ed_formatOf_4 : decode b_Ed_formatOf 4 = .ok (.getstatic 87, 3) := by decide +kernel
theorem d_Ed_formatOf_7 : decode b_Ed_formatOf 7 = .ok (.goto 6, 3) := by decide +kernel
theorem d_Ed_formatOf_10 : decode b_Ed_formatOf 10 = .ok (.getstatic 93, 3) := by decide +kernel
theorem d_Ed_formatOf_13 : decode b_Ed_formatOf 13 = .ok (.areturn, 1) := by decide +kernel
theorem d_Ed_nearestToScratch_0 : decode b_Ed_nearestToScratch 0 = .ok (.aload_n 0, 1) := by decide +kernel
theorem d_Ed_nearestToScratch_1 : decode b_Ed_nearestToScratch 1 = .ok (.getfield 16, 3) := by decide +kernel
theorem d_Ed_nearestToScratch_4 : decode b_Ed_nearestToScratch 4 = .ok (.invokevirtual 107, 3) := by decide +kernel
theorem d_Ed_nearestToScratch_7 : decode b_Ed_nearestToScratch 7 = .ok (.istore 4, 2) := by decide +kernel
theorem d_Ed_nearestToScratch_9 : decode b_Ed_nearestToScratch 9 = .ok (.iload 4, 2) := by decide +kernel
theorem d_Ed_nearestToScratch_11 : decode b_Ed_nearestToScratch 11 = .ok (.ifCond .eq 13, 3) := by decide +kernel
theorem d_Ed_nearestToScratch_14 : decode b_Ed_nearestToScratch 14 = .ok (.iload 4, 2) := by decide +kernel
theorem d_Ed_nearestToScratch_16 : decode b_Ed_nearestToScratch 16 = .ok (.iload_n 1, 1) := by decide +kernel
theorem d_Ed_nearestToScratch_17 : decode b_Ed_nearestToScratch 17 = .ok (.iadd, 1) := by decide +kernel
theorem d_Ed_nearestToScratch_18 : decode b_Ed_nearestToScratch 18 = .ok (.sipush (-330), 3) := by decide +kernel
theorem d_Ed_nearestToScratch_21 : decode b_Ed_nearestToScratch 21 = .ok (.if_icmp .ge 5, 3) := by decide +kernel
theorem d_Ed_nearestToScratch_24 : decode b_Ed_nearestToScratch 24 = .ok (.lconst 0, 1) := by decide +kernel
theorem d_Ed_nearestToScratch_25 : decode b_Ed_nearestToScratch 25 = .ok (.lreturn, 1) := by decide +kernel
theorem d_Ed_nearestToScratch_26 : decode b_Ed_nearestToScratch 26 = .ok (.iload 4, 2) := by decide +kernel
theorem d_Ed_nearestToScratch_28 : decode b_Ed_nearestToScratch 28 = .ok (.iload_n 1, 1) := by decide +kernel
theorem d_Ed_nearestToScratch_29 : decode b_Ed_nearestToScratch 29 = .ok (.iadd, 1) := by decide +kernel
theorem d_Ed_nearestToScratch_30 : decode b_Ed_nearestToScratch 30 = .ok (.sipush 310, 3) := by decide +kernel
theorem d_Ed_nearestToScratch_33 : decode b_Ed_nearestToScratch 33 = .ok (.if_icmp .le 8, 3) := by decide +kernel
theorem d_Ed_nearestToScratch_36 : decode b_Ed_nearestToScratch 36 = .ok (.aload_n 3, 1) := by decide +kernel
theorem d_Ed_nearestToScratch_37 : decode b_Ed_nearestToScratch 37 = .ok (.getfield 100, 3) := by decide +kernel
theorem d_Ed_nearestToScratch_40 : decode b_Ed_nearestToScratch 40 = .ok (.lreturn, 1) := by decide +kernel
theorem d_Ed_nearestToScratch_41 : decode b_Ed_nearestToScratch 41 = .ok (.bipush 60, 2) := by decide +kernel
theorem d_Ed_nearestToScratch_43 : decode b_Ed_nearestToScratch 43 = .ok (.iload 4, 2) := by decide +kernel
theorem d_Ed_nearestToScratch_45 : decode b_Ed_nearestToScratch 45 = .ok (.iload_n 1, 1) := by decide +kernel
theorem d_Ed_nearestToScratch_46 : decode b_Ed_nearestToScratch 46 = .ok (.iadd, 1) := by decide +kernel
theorem d_Ed_nearestToScratch_47 : decode b_Ed_nearestToScratch 47 = .ok (.invokestatic 154, 3) := by decide +kernel
theorem d_Ed_nearestToScratch_50 : decode b_Ed_nearestToScratch 50 = .ok (.isub, 1) := by decide +kernel
theorem d_Ed_nearestToScratch_51 : decode b_Ed_nearestToScratch 51 = .ok (.istore 5, 2) := by decide +kernel
theorem d_Ed_nearestToScratch_53 : decode b_Ed_nearestToScratch 53 = .ok (.iload_n 1, 1) := by decide +kernel
theorem d_Ed_nearestToScratch_54 : decode b_Ed_nearestToScratch 54 = .ok (.aload_n 0, 1) := by decide +kernel
theorem d_Ed_nearestToScratch_55 : decode b_Ed_nearestToScratch 55 = .ok (.getfield 16, 3) := by decide +kernel
theorem d_Ed_nearestToScratch_58 : decode b_Ed_nearestToScratch 58 = .ok (.iload 5, 2) := by decide +kernel
theorem d_Ed_nearestToScratch_60 : decode b_Ed_nearestToScratch 60 = .ok (.invokevirtual 69, 3) := by decide +kernel
theorem d_Ed_nearestToScratch_63 : decode b_Ed_nearestToScratch 63 = .ok (.iadd, 1) := by decide +kernel
theorem d_Ed_nearestToScratch_64 : decode b_Ed_nearestToScratch 64 = .ok (.istore 6, 2) := by decide +kernel
theorem d_Ed_nearestToScratch_66 : decode b_Ed_nearestToScratch 66 = .ok (.aload_n 0, 1) := by decide +kernel
theorem d_Ed_nearestToScratch_67 : decode b_Ed_nearestToScratch 67 = .ok (.getfield 16, 3) := by decide +kernel
theorem d_Ed_nearestToScratch_70 : decode b_Ed_nearestToScratch 70 = .ok (.aload_n 0, 1) := by decide +kernel
theorem d_Ed_nearestToScratch_71 : decode b_Ed_nearestToScratch 71 = .ok (.getfield 16, 3) := by decide +kernel
theorem d_Ed_nearestToScratch_74 : decode b_Ed_nearestToScratch 74 = .ok (.invokevirtual 107, 3) := by decide +kernel
theorem d_Ed_nearestToScratch_77 : decode b_Ed_nearestToScratch 77 = .ok (.iload 6, 2) := by decide +kernel
theorem d_Ed_nearestToScratch_79 : decode b_Ed_nearestToScratch 79 = .ok (.iadd, 1) := by decide +kernel
theorem d_Ed_nearestToScratch_80 : decode b_Ed_nearestToScratch 80 = .ok (.invokevirtual 157, 3) := by decide +kernel
theorem d_Ed_nearestToScratch_83 : decode b_Ed_nearestToScratch 83 = .ok (.lstore 7, 2) := by decide +kernel
theorem d_Ed_nearestToScratch_85 : decode b_Ed_nearestToScratch 85 = .ok (.aload_n 3, 1) := by decide +kernel
theorem d_Ed_nearestToScratch_86 : decode b_Ed_nearestToScratch 86 = .ok (.lload 7, 2) := by decide +kernel
theorem d_Ed_nearestToScratch_88 : decode b_Ed_nearestToScratch 88 = .ok (.iload_n 2, 1) := by decide +kernel
theorem d_Ed_nearestToScratch_89 : decode b_Ed_nearestToScratch 89 = .ok (.ifCond .ne 16, 3) := by decide +kernel
theorem d_Ed_nearestToScratch_92 : decode b_Ed_nearestToScratch 92 = .ok (.aload_n 0, 1) := by decide +kernel
theorem d_Ed_nearestToScratch_93 : decode b_Ed_nearestToScratch 93 = .ok (.getfield 16, 3) := by decide +kernel
theorem d_Ed_nearestToScratch_96 : decode b_Ed_nearestToScratch 96 = .ok (.iload 6, 2) := by decide +kernel
theorem d_Ed_nearestToScratch_98 : decode b_Ed_nearestToScratch 98 = .ok (.ineg, 1) := by decide +kernel
theorem d_Ed_nearestToScratch_99 : decode b_Ed_nearestToScratch 99 = .ok (.invokevirtual 158, 3) := by decide +kernel
theorem d_Ed_nearestToScratch_102 : decode b_Ed_nearestToScratch 102 = .ok (.ifCond .eq 7, 3) := by decide +kernel
theorem d_Ed_nearestToScratch_105 : decode b_Ed_nearestToScratch 105 = .ok (.iconst 1, 1) := by decide +kernel
theorem d_Ed_nearestToScratch_106 : decode b_Ed_nearestToScratch 106 = .ok (.goto 4, 3) := by decide +kernel
theorem d_Ed_nearestToScratch_109 : decode b_Ed_nearestToScratch 109 = .ok (.iconst 0, 1) := by decide +kernel
theorem d_Ed_nearestToScratch_110 : decode b_Ed_nearestToScratch 110 = .ok (.iload 5, 2) := by decide +kernel
theorem d_Ed_nearestToScratch_112 : decode b_Ed_nearestToScratch 112 = .ok (.ineg, 1) := by decide +kernel
theorem d_Ed_nearestToScratch_113 : decode b_Ed_nearestToScratch 113 = .ok (.invokevirtual 162, 3) := by decide +kernel
theorem d_Ed_nearestToScratch_116 : decode b_Ed_nearestToScratch 116 = .ok (.lreturn, 1) := by decide +kernel
theorem d_Ed_bitsOfTenTo_0 : decode b_Ed_bitsOfTenTo 0 = .ok (.iload_n 0, 1) := by decide +kernel
theorem d_Ed_bitsOfTenTo_1 : decode b_Ed_bitsOfTenTo 1 = .ok (.ldc 166, 2) := by decide +kernel
theorem d_Ed_bitsOfTenTo_3 : decode b_Ed_bitsOfTenTo 3 = .ok (.imul, 1) := by decide +kernel
theorem d_Ed_bitsOfTenTo_4 : decode b_Ed_bitsOfTenTo 4 = .ok (.bipush 16, 2) := by decide +kernel
theorem d_Ed_bitsOfTenTo_6 : decode b_Ed_bitsOfTenTo 6 = .ok (.ishr, 1) := by decide +kernel
theorem d_Ed_bitsOfTenTo_7 : decode b_Ed_bitsOfTenTo 7 = .ok (.ireturn, 1) := by decide +kernel
theorem d_Ed_digest_0 : decode b_Ed_digest 0 = .ok (.ldc2_w 83, 3) := by decide +kernel
theorem d_Ed_digest_3 : decode b_Ed_digest 3 = .ok (.lstore_n 1, 1) := by decide +kernel
theorem d_Ed_digest_4 : decode b_Ed_digest 4 = .ok (.iconst 0, 1) := by decide +kernel
theorem d_Ed_digest_5 : decode b_Ed_digest 5 = .ok (.istore_n 3, 1) := by decide +kernel
theorem d_Ed_digest_6 : decode b_Ed_digest 6 = .ok (.iload_n 3, 1) := by decide +kernel
theorem d_Ed_digest_7 : decode b_Ed_digest 7 = .ok (.aload_n 0, 1) := by decide +kernel
theorem d_Ed_digest_8 : decode b_Ed_digest 8 = .ok (.getfield 20, 3) := by decide +kernel
theorem d_Ed_digest_11 : decode b_Ed_digest 11 = .ok (.if_icmp .ge 23, 3) := by decide +kernel
theorem d_Ed_digest_14 : decode b_Ed_digest 14 = .ok (.lload_n 1, 1) := by decide +kernel
theorem d_Ed_digest_15 : decode b_Ed_digest 15 = .ok (.ldc2_w 85, 3) := by decide +kernel
theorem d_Ed_digest_18 : decode b_Ed_digest 18 = .ok (.lmul, 1) := by decide +kernel
theorem d_Ed_digest_19 : decode b_Ed_digest 19 = .ok (.aload_n 0, 1) := by decide +kernel
theorem d_Ed_digest_20 : decode b_Ed_digest 20 = .ok (.getfield 9, 3) := by decide +kernel
theorem d_Ed_digest_23 : decode b_Ed_digest 23 = .ok (.iload_n 3, 1) := by decide +kernel
theorem d_Ed_digest_24 : decode b_Ed_digest 24 = .ok (.baload, 1) := by decide +kernel
theorem d_Ed_digest_25 : decode b_Ed_digest 25 = .ok (.i2l, 1) := by decide +kernel
theorem d_Ed_digest_26 : decode b_Ed_digest 26 = .ok (.ladd, 1) := by decide +kernel
theorem d_Ed_digest_27 : decode b_Ed_digest 27 = .ok (.lstore_n 1, 1) := by decide +kernel
theorem d_Ed_digest_28 : decode b_Ed_digest 28 = .ok (.iinc 3 1, 3) := by decide +kernel
theorem d_Ed_digest_31 : decode b_Ed_digest 31 = .ok (.goto (-25), 3) := by decide +kernel
theorem d_Ed_digest_34 : decode b_Ed_digest 34 = .ok (.lload_n 1, 1) := by decide +kernel
theorem d_Ed_digest_35 : decode b_Ed_digest 35 = .ok (.ldc2_w 85, 3) := by decide +kernel
theorem d_Ed_digest_38 : decode b_Ed_digest 38 = .ok (.lmul, 1) := by decide +kernel
theorem d_Ed_digest_39 : decode b_Ed_digest 39 = .ok (.aload_n 0, 1) := by decide +kernel
theorem d_Ed_digest_40 : decode b_Ed_digest 40 = .ok (.getfield 24, 3) := by decide +kernel
theorem d_Ed_digest_43 : decode b_Ed_digest 43 = .ok (.i2l, 1) := by decide +kernel
theorem d_Ed_digest_44 : decode b_Ed_digest 44 = .ok (.ladd, 1) := by decide +kernel
theorem d_Ed_digest_45 : decode b_Ed_digest 45 = .ok (.lreturn, 1) := by decide +kernel
theorem d_Ed_real_0 : decode b_Ed_real 0 = .ok (.iload_n 3, 1) := by decide +kernel
theorem d_Ed_real_1 : decode b_Ed_real 1 = .ok (.invokestatic 39, 3) := by decide +kernel
theorem d_Ed_real_4 : decode b_Ed_real 4 = .ok (.astore 4, 2) := by decide +kernel
theorem d_Ed_real_6 : decode b_Ed_real 6 = .ok (.aload_n 0, 1) := by decide +kernel
theorem d_Ed_real_7 : decode b_Ed_real 7 = .ok (.lload_n 1, 1) := by decide +kernel
theorem d_Ed_real_8 : decode b_Ed_real 8 = .ok (.aload 4, 2) := by decide +kernel
theorem d_Ed_real_10 : decode b_Ed_real 10 = .ok (.invokestatic 43, 3) := by decide +kernel
theorem d_Ed_real_13 : decode b_Ed_real 13 = .ok (.aload 4, 2) := by decide +kernel
theorem d_Ed_real_15 : decode b_Ed_real 15 = .ok (.invokevirtual 47, 3) := by decide +kernel
theorem d_Ed_real_18 : decode b_Ed_real 18 = .ok (.aload_n 0, 1) := by decide +kernel
theorem d_Ed_real_19 : decode b_Ed_real 19 = .ok (.getfield 20, 3) := by decide +kernel
theorem d_Ed_real_22 : decode b_Ed_real 22 = .ok (.ireturn, 1) := by decide +kernel
theorem d_Ed_finiteSize_0 : decode b_Ed_finiteSize 0 = .ok (.aload_n 2, 1) := by decide +kernel
theorem d_Ed_finiteSize_1 : decode b_Ed_finiteSize 1 = .ok (.lload_n 0, 1) := by decide +kernel
theorem d_Ed_finiteSize_2 : decode b_Ed_finiteSize 2 = .ok (.invokevirtual 96, 3) := by decide +kernel
theorem d_Ed_finiteSize_5 : decode b_Ed_finiteSize 5 = .ok (.lstore_n 3, 1) := by decide +kernel
theorem d_Ed_finiteSize_6 : decode b_Ed_finiteSize 6 = .ok (.lload_n 3, 1) := by decide +kernel
theorem d_Ed_finiteSize_7 : decode b_Ed_finiteSize 7 = .ok (.aload_n 2, 1) := by decide +kernel
theorem d_Ed_finiteSize_8 : decode b_Ed_finiteSize 8 = .ok (.getfield 100, 3) := by decide +kernel
theorem d_Ed_finiteSize_11 : decode b_Ed_finiteSize 11 = .ok (.lcmp, 1) := by decide +kernel
theorem d_Ed_finiteSize_12 : decode b_Ed_finiteSize 12 = .ok (.ifCond .lt 11, 3) := by decide +kernel
theorem d_Ed_finiteSize_15 : decode b_Ed_finiteSize 15 = .ok (.new 104, 3) := by decide +kernel
theorem d_Ed_finiteSize_18 : decode b_Ed_finiteSize 18 = .ok (.dup, 1) := by decide +kernel
theorem d_Ed_finiteSize_19 : decode b_Ed_finiteSize 19 = .ok (.invokespecial 106, 3) := by decide +kernel
theorem d_Ed_finiteSize_22 : decode b_Ed_finiteSize 22 = .ok (.athrow, 1) := by decide +kernel
theorem d_Ed_finiteSize_23 : decode b_Ed_finiteSize 23 = .ok (.lload_n 3, 1) := by decide +kernel
theorem d_Ed_finiteSize_24 : decode b_Ed_finiteSize 24 = .ok (.lreturn, 1) := by decide +kernel
theorem d_Ed_giveExact_0 : decode b_Ed_giveExact 0 = .ok (.aload_n 0, 1) := by decide +kernel
theorem d_Ed_giveExact_1 : decode b_Ed_giveExact 1 = .ok (.getfield 16, 3) := by decide +kernel
theorem d_Ed_giveExact_4 : decode b_Ed_giveExact 4 = .ok (.aload_n 3, 1) := by decide +kernel
theorem d_Ed_giveExact_5 : decode b_Ed_giveExact 5 = .ok (.lload_n 1, 1) := by decide +kernel
theorem d_Ed_giveExact_6 : decode b_Ed_giveExact 6 = .ok (.invokevirtual 124, 3) := by decide +kernel
theorem d_Ed_giveExact_9 : decode b_Ed_giveExact 9 = .ok (.invokevirtual 31, 3) := by decide +kernel
theorem d_Ed_giveExact_12 : decode b_Ed_giveExact 12 = .ok (.aload_n 0, 1) := by decide +kernel
theorem d_Ed_giveExact_13 : decode b_Ed_giveExact 13 = .ok (.aload_n 0, 1) := by decide +kernel
theorem d_Ed_giveExact_14 : decode b_Ed_giveExact 14 = .ok (.getfield 16, 3) := by decide +kernel
theorem d_Ed_giveExact_17 : decode b_Ed_giveExact 17 = .ok (.aload_n 3, 1) := by decide +kernel
theorem d_Ed_giveExact_18 : decode b_Ed_giveExact 18 = .ok (.lload_n 1, 1) := by decide +kernel
theorem d_Ed_giveExact_19 : decode b_Ed_giveExact 19 = .ok (.invokevirtual 127, 3) := by decide +kernel
theorem d_Ed_giveExact_22 : decode b_Ed_giveExact 22 = .ok (.invokevirtual 69, 3) := by decide +kernel
theorem d_Ed_giveExact_25 : decode b_Ed_giveExact 25 = .ok (.invokevirtual 35, 3) := by decide +kernel
theorem d_Ed_giveExact_28 : decode b_Ed_giveExact 28 = .ok (.return_, 1) := by decide +kernel
theorem d_Ed_shortest_0 : decode b_Ed_shortest 0 = .ok (.iload_n 3, 1) := by decide +kernel
theorem d_Ed_shortest_1 : decode b_Ed_shortest 1 = .ok (.invokestatic 39, 3) := by decide +kernel
theorem d_Ed_shortest_4 : decode b_Ed_shortest 4 = .ok (.astore 4, 2) := by decide +kernel
theorem d_Ed_shortest_6 : decode b_Ed_shortest 6 = .ok (.lload_n 1, 1) := by decide +kernel
theorem d_Ed_shortest_7 : decode b_Ed_shortest 7 = .ok (.aload 4, 2) := by decide +kernel
theorem d_Ed_shortest_9 : decode b_Ed_shortest 9 = .ok (.invokestatic 43, 3) := by decide +kernel
theorem d_Ed_shortest_12 : decode b_Ed_shortest 12 = .ok (.lstore 5, 2) := by decide +kernel
theorem d_Ed_shortest_14 : decode b_Ed_shortest 14 = .ok (.aload_n 0, 1) := by decide +kernel
theorem d_Ed_shortest_15 : decode b_Ed_shortest 15 = .ok (.lload 5, 2) := by decide +kernel
theorem d_Ed_shortest_17 : decode b_Ed_shortest 17 = .ok (.aload 4, 2) := by decide +kernel
theorem d_Ed_shortest_19 : decode b_Ed_shortest 19 = .ok (.invokevirtual 47, 3) := by decide +kernel
theorem d_Ed_shortest_22 : decode b_Ed_shortest 22 = .ok (.aload_n 0, 1) := by decide +kernel
theorem d_Ed_shortest_23 : decode b_Ed_shortest 23 = .ok (.lload 5, 2) := by decide +kernel
theorem d_Ed_shortest_25 : decode b_Ed_shortest 25 = .ok (.aload 4, 2) := by decide +kernel
theorem d_Ed_shortest_27 : decode b_Ed_shortest 27 = .ok (.invokevirtual 51, 3) := by decide +kernel
theorem d_Ed_shortest_30 : decode b_Ed_shortest 30 = .ok (.aload_n 0, 1) := by decide +kernel
theorem d_Ed_shortest_31 : decode b_Ed_shortest 31 = .ok (.getfield 20, 3) := by decide +kernel
theorem d_Ed_shortest_34 : decode b_Ed_shortest 34 = .ok (.ireturn, 1) := by decide +kernel
theorem d_Ed_shorten_0 : decode b_Ed_shorten 0 = .ok (.iconst 2, 1) := by decide +kernel
theorem d_Ed_shorten_1 : decode b_Ed_shorten 1 = .ok (.istore 4, 2) := by decide +kernel
theorem d_Ed_shorten_3 : decode b_Ed_shorten 3 = .ok (.aload_n 0, 1) := by decide +kernel
theorem d_Ed_shorten_4 : decode b_Ed_shorten 4 = .ok (.getfield 20, 3) := by decide +kernel
theorem d_Ed_shorten_7 : decode b_Ed_shorten 7 = .ok (.bipush 17, 2) := by decide +kernel
theorem d_Ed_shorten_9 : decode b_Ed_shorten 9 = .ok (.invokestatic 115, 3) := by decide +kernel
theorem d_Ed_shorten_12 : decode b_Ed_shorten 12 = .ok (.istore 5, 2) := by decide +kernel
theorem d_Ed_shorten_14 : decode b_Ed_shorten 14 = .ok (.iload 4, 2) := by decide +kernel
theorem d_Ed_shorten_16 : decode b_Ed_shorten 16 = .ok (.iload 5, 2) := by decide +kernel
theorem d_Ed_shorten_18 : decode b_Ed_shorten 18 = .ok (.if_icmp .ge 43, 3) := by decide +kernel
theorem d_Ed_shorten_21 : decode b_Ed_shorten 21 = .ok (.iload 4, 2) := by decide +kernel
theorem d_Ed_shorten_23 : decode b_Ed_shorten 23 = .ok (.iload 5, 2) := by decide +kernel
theorem d_Ed_shorten_25 : decode b_Ed_shorten 25 = .ok (.iadd, 1) := by decide +kernel
theorem d_Ed_shorten_26 : decode b_Ed_shorten 26 = .ok (.iconst 2, 1) := by decide +kernel
theorem d_Ed_shorten_27 : decode b_Ed_shorten 27 = .ok (.idiv, 1) := by decide +kernel
theorem d_Ed_shorten_28 : decode b_Ed_shorten 28 = .ok (.istore 6, 2) := by decide +kernel
theorem d_Ed_shorten_30 : decode b_Ed_shorten 30 = .ok (.aload_n 0, 1) := by decide +kernel
theorem d_Ed_shorten_31 : decode b_Ed_shorten 31 = .ok (.iload 6, 2) := by decide +kernel
theorem d_Ed_shorten_33 : decode b_Ed_shorten 33 = .ok (.lload_n 1, 1) := by decide +kernel
theorem d_Ed_shorten_34 : decode b_Ed_shorten 34 = .ok (.aload_n 3, 1) := by decide +kernel
theorem d_Ed_shorten_35 : decode b_Ed_shorten 35 = .ok (.invokevirtual 134, 3) := by decide +kernel
theorem d_Ed_shorten_38 : decode b_Ed_shorten 38 = .ok (.ldc2_w 138, 3) := by decide +kernel
theorem d_Ed_shorten_41 : decode b_Ed_shorten 41 = .ok (.lcmp, 1) := by decide +kernel
theorem d_Ed_shorten_42 : decode b_Ed_shorten 42 = .ok (.ifCond .eq 10, 3) := by decide +kernel
theorem d_Ed_shorten_45 : decode b_Ed_shorten 45 = .ok (.iload 6, 2) := by decide +kernel
theorem d_Ed_shorten_47 : decode b_Ed_shorten 47 = .ok (.istore 5, 2) := by decide +kernel
theorem d_Ed_shorten_49 : decode b_Ed_shorten 49 = .ok (.goto 9, 3) := by decide +kernel
theorem d_Ed_shorten_52 : decode b_Ed_shorten 52 = .ok (.iload 6, 2) := by decide +kernel
theorem d_Ed_shorten_54 : decode b_Ed_shorten 54 = .ok (.iconst 1, 1) := by decide +kernel
theorem d_Ed_shorten_55 : decode b_Ed_shorten 55 = .ok (.iadd, 1) := by decide +kernel
theorem d_Ed_shorten_56 : decode b_Ed_shorten 56 = .ok (.istore 4, 2) := by decide +kernel
theorem d_Ed_shorten_58 : decode b_Ed_shorten 58 = .ok (.goto (-44), 3) := by decide +kernel
theorem d_Ed_shorten_61 : decode b_Ed_shorten 61 = .ok (.iload 5, 2) := by decide +kernel
theorem d_Ed_shorten_63 : decode b_Ed_shorten 63 = .ok (.aload_n 0, 1) := by decide +kernel
theorem d_Ed_shorten_64 : decode b_Ed_shorten 64 = .ok (.getfield 20, 3) := by decide +kernel
theorem d_Ed_shorten_67 : decode b_Ed_shorten 67 = .ok (.if_icmp .ge 14, 3) := by decide +kernel
theorem d_Ed_shorten_70 : decode b_Ed_shorten 70 = .ok (.aload_n 0, 1) := by decide +kernel
theorem d_Ed_shorten_71 : decode b_Ed_shorten 71 = .ok (.iload 5, 2) := by decide +kernel
theorem d_Ed_shorten_73 : decode b_Ed_shorten 73 = .ok (.lload_n 1, 1) := by decide +kernel
theorem d_Ed_shorten_74 : decode b_Ed_shorten 74 = .ok (.aload_n 3, 1) := by decide +kernel
theorem d_Ed_shorten_75 : decode b_Ed_shorten 75 = .ok (.invokevirtual 134, 3) := by decide +kernel
theorem d_Ed_shorten_78 : decode b_Ed_shorten 78 = .ok (.goto 6, 3) := by decide +kernel
theorem d_Ed_shorten_81 : decode b_Ed_shorten 81 = .ok (.ldc2_w 138, 3) := by decide +kernel
theorem d_Ed_shorten_84 : decode b_Ed_shorten 84 = .ok (.lstore 6, 2) := by decide +kernel
theorem d_Ed_shorten_86 : decode b_Ed_shorten 86 = .ok (.lload 6, 2) := by decide +kernel
theorem d_Ed_shorten_88 : decode b_Ed_shorten 88 = .ok (.ldc2_w 138, 3) := by decide +kernel
theorem d_Ed_shorten_91 : decode b_Ed_shorten 91 = .ok (.lcmp, 1) := by decide +kernel
theorem d_Ed_shorten_92 : decode b_Ed_shorten 92 = .ok (.ifCond .eq 23, 3) := by decide +kernel
theorem d_Ed_shorten_95 : decode b_Ed_shorten 95 = .ok (.aload_n 0, 1) := by decide +kernel
theorem d_Ed_shorten_96 : decode b_Ed_shorten 96 = .ok (.getfield 16, 3) := by decide +kernel
theorem d_Ed_shorten_99 : decode b_Ed_shorten 99 = .ok (.lload 6, 2) := by decide +kernel
theorem d_Ed_shorten_101 : decode b_Ed_shorten 101 = .ok (.invokevirtual 31, 3) := by decide +kernel
theorem d_Ed_shorten_104 : decode b_Ed_shorten 104 = .ok (.aload_n 0, 1) := by decide +kernel
theorem d_Ed_shorten_105 : decode b_Ed_shorten 105 = .ok (.aload_n 0, 1) := by decide +kernel
theorem d_Ed_shorten_106 : decode b_Ed_shorten 106 = .ok (.getfield 24, 3) := by decide +kernel
theorem d_Ed_shorten_109 : decode b_Ed_shorten 109 = .ok (.iload 5, 2) := by decide +kernel
theorem d_Ed_shorten_111 : decode b_Ed_shorten 111 = .ok (.isub, 1) := by decide +kernel
theorem d_Ed_shorten_112 : decode b_Ed_shorten 112 = .ok (.invokevirtual 35, 3) := by decide +kernel
theorem d_Ed_shorten_115 : decode b_Ed_shorten 115 = .ok (.return_, 1) := by decide +kernel
theorem d_Ed_neighbourReadBack_0 : decode b_Ed_neighbourReadBack 0 = .ok (.aload_n 0, 1) := by decide +kernel
theorem d_Ed_neighbourReadBack_1 : decode b_Ed_neighbourReadBack 1 = .ok (.iload_n 1, 1) := by decide +kernel
theorem d_Ed_neighbourReadBack_2 : decode b_Ed_neighbourReadBack 2 = .ok (.invokevirtual 140, 3) := by decide +kernel
theorem d_Ed_neighbourReadBack_5 : decode b_Ed_neighbourReadBack 5 = .ok (.lstore 5, 2) := by decide +kernel
theorem d_Ed_neighbourReadBack_7 : decode b_Ed_neighbourReadBack 7 = .ok (.aload_n 0, 1) := by decide +kernel
theorem d_Ed_neighbourReadBack_8 : decode b_Ed_neighbourReadBack 8 = .ok (.iload_n 1, 1) := by decide +kernel
theorem d_Ed_neighbourReadBack_9 : decode b_Ed_neighbourReadBack 9 = .ok (.lload 5, 2) := by decide +kernel
theorem d_Ed_neighbourReadBack_11 : decode b_Ed_neighbourReadBack 11 = .ok (.invokevirtual 144, 3) := by decide +kernel
theorem d_Ed_neighbourReadBack_14 : decode b_Ed_neighbourReadBack 14 = .ok (.ifCond .eq 10, 3) := by decide +kernel
theorem d_Ed_neighbourReadBack_17 : decode b_Ed_neighbourReadBack 17 = .ok (.lload 5, 2) := by decide +kernel
theorem d_Ed_neighbourReadBack_19 : decode b_Ed_neighbourReadBack 19 = .ok (.lconst 1, 1) := by decide +kernel
theorem d_Ed_neighbourReadBack_20 : decode b_Ed_neighbourReadBack 20 = .ok (.ladd, 1) := by decide +kernel
theorem d_Ed_neighbourReadBack_21 : decode b_Ed_neighbourReadBack 21 = .ok (.goto 5, 3) := by decide +kernel
theorem d_Ed_neighbourReadBack_24 : decode b_Ed_neighbourReadBack 24 = .ok (.lload 5, 2) := by decide +kernel
theorem d_Ed_neighbourReadBack_26 : decode b_Ed_neighbourReadBack 26 = .ok (.lstore 7, 2) := by decide +kernel
theorem d_Ed_neighbourReadBack_28 : decode b_Ed_neighbourReadBack 28 = .ok (.lload 7, 2) := by decide +kernel
theorem d_Ed_neighbourReadBack_30 : decode b_Ed_neighbourReadBack 30 = .ok (.lload 5, 2) := by decide +kernel
theorem d_Ed_neighbourReadBack_32 : decode b_Ed_neighbourReadBack 32 = .ok (.lcmp, 1) := by decide +kernel
theorem d_Ed_neighbourReadBack_33 : decode b_Ed_neighbourReadBack 33 = .ok (.ifCond .ne 10, 3) := by decide +kernel
theorem d_Ed_neighbourReadBack_36 : decode b_Ed_neighbourReadBack 36 = .ok (.lload 5, 2) := by decide +kernel
theorem d_Ed_neighbourReadBack_38 : decode b_Ed_neighbourReadBack 38 = .ok (.lconst 1, 1) := by decide +kernel
theorem d_Ed_neighbourReadBack_39 : decode b_Ed_neighbourReadBack 39 = .ok (.ladd, 1) := by decide +kernel
theorem d_Ed_neighbourReadBack_40 : decode b_Ed_neighbourReadBack 40 = .ok (.goto 5, 3) := by decide +kernel
theorem d_Ed_neighbourReadBack_43 : decode b_Ed_neighbourReadBack 43 = .ok (.lload 5, 2) := by decide +kernel
theorem d_Ed_neighbourReadBack_45 : decode b_Ed_neighbourReadBack 45 = .ok (.lstore 9, 2) := by decide +kernel
theorem d_Ed_neighbourReadBack_47 : decode b_Ed_neighbourReadBack 47 = .ok (.aload_n 0, 1) := by decide +kernel
theorem d_Ed_neighbourReadBack_48 : decode b_Ed_neighbourReadBack 48 = .ok (.lload 7, 2) := by decide +kernel
theorem d_Ed_neighbourReadBack_50 : decode b_Ed_neighbourReadBack 50 = .ok (.aload_n 0, 1) := by decide +kernel
theorem d_Ed_neighbourReadBack_51 : decode b_Ed_neighbourReadBack 51 = .ok (.getfield 24, 3) := by decide +kernel
theorem d_Ed_neighbourReadBack_54 : decode b_Ed_neighbourReadBack 54 = .ok (.iload_n 1, 1) := by decide +kernel
theorem d_Ed_neighbourReadBack_55 : decode b_Ed_neighbourReadBack 55 = .ok (.isub, 1) := by decide +kernel
theorem d_Ed_neighbourReadBack_56 : decode b_Ed_neighbourReadBack 56 = .ok (.lload_n 2, 1) := by decide +kernel
theorem d_Ed_neighbourReadBack_57 : decode b_Ed_neighbourReadBack 57 = .ok (.aload 4, 2) := by decide +kernel
theorem d_Ed_neighbourReadBack_59 : decode b_Ed_neighbourReadBack 59 = .ok (.invokevirtual 148, 3) := by decide +kernel
theorem d_Ed_neighbourReadBack_62 : decode b_Ed_neighbourReadBack 62 = .ok (.ifCond .eq 6, 3) := by decide +kernel
theorem d_Ed_neighbourReadBack_65 : decode b_Ed_neighbourReadBack 65 = .ok (.lload 7, 2) := by decide +kernel
theorem d_Ed_neighbourReadBack_67 : decode b_Ed_neighbourReadBack 67 = .ok (.lreturn, 1) := by decide +kernel
theorem d_Ed_neighbourReadBack_68 : decode b_Ed_neighbourReadBack 68 = .ok (.aload_n 0, 1) := by decide +kernel
theorem d_Ed_neighbourReadBack_69 : decode b_Ed_neighbourReadBack 69 = .ok (.lload 9, 2) := by decide +kernel
theorem d_Ed_neighbourReadBack_71 : decode b_Ed_neighbourReadBack 71 = .ok (.aload_n 0, 1) := by decide +kernel
theorem d_Ed_neighbourReadBack_72 : decode b_Ed_neighbourReadBack 72 = .ok (.getfield 24, 3) := by decide +kernel
theorem d_Ed_neighbourReadBack_75 : decode b_Ed_neighbourReadBack 75 = .ok (.iload_n 1, 1) := by decide +kernel
theorem d_Ed_neighbourReadBack_76 : decode b_Ed_neighbourReadBack 76 = .ok (.isub, 1) := by decide +kernel
theorem d_Ed_neighbourReadBack_77 : decode b_Ed_neighbourReadBack 77 = .ok (.lload_n 2, 1) := by decide +kernel
theorem d_Ed_neighbourReadBack_78 : decode b_Ed_neighbourReadBack 78 = .ok (.aload 4, 2) := by decide +kernel
theorem d_Ed_neighbourReadBack_80 : decode b_Ed_neighbourReadBack 80 = .ok (.invokevirtual 148, 3) := by decide +kernel
theorem d_Ed_neighbourReadBack_83 : decode b_Ed_neighbourReadBack 83 = .ok (.ifCond .eq 8, 3) := by decide +kernel
theorem d_Ed_neighbourReadBack_86 : decode b_Ed_neighbourReadBack 86 = .ok (.lload 9, 2) := by decide +kernel
theorem d_Ed_neighbourReadBack_88 : decode b_Ed_neighbourReadBack 88 = .ok (.goto 6, 3) := by decide +kernel
theorem d_Ed_neighbourReadBack_91 : decode b_Ed_neighbourReadBack 91 = .ok (.ldc2_w 138, 3) := by decide +kernel
theorem d_Ed_neighbourReadBack_94 : decode b_Ed_neighbourReadBack 94 = .ok (.lreturn, 1) := by decide +kernel
theorem d_Ed_firstDigits_0 : decode b_Ed_firstDigits 0 = .ok (.lconst 0, 1) := by decide +kernel
theorem d_Ed_firstDigits_1 : decode b_Ed_firstDigits 1 = .ok (.lstore_n 2, 1) := by decide +kernel
theorem d_Ed_firstDigits_2 : decode b_Ed_firstDigits 2 = .ok (.iconst 0, 1) := by decide +kernel
theorem d_Ed_firstDigits_3 : decode b_Ed_firstDigits 3 = .ok (.istore 4, 2) := by decide +kernel
theorem d_Ed_firstDigits_5 : decode b_Ed_firstDigits 5 = .ok (.iload 4, 2) := by decide +kernel
theorem d_Ed_firstDigits_7 : decode b_Ed_firstDigits 7 = .ok (.iload_n 1, 1) := by decide +kernel
theorem d_Ed_firstDigits_8 : decode b_Ed_firstDigits 8 = .ok (.if_icmp .ge 33, 3) := by decide +kernel
theorem d_Ed_firstDigits_11 : decode b_Ed_firstDigits 11 = .ok (.iload 4, 2) := by decide +kernel
theorem d_Ed_firstDigits_13 : decode b_Ed_firstDigits 13 = .ok (.aload_n 0, 1) := by decide +kernel
theorem d_Ed_firstDigits_14 : decode b_Ed_firstDigits 14 = .ok (.getfield 20, 3) := by decide +kernel
theorem d_Ed_firstDigits_17 : decode b_Ed_firstDigits 17 = .ok (.if_icmp .ge 24, 3) := by decide +kernel
theorem d_Ed_firstDigits_20 : decode b_Ed_firstDigits 20 = .ok (.lload_n 2, 1) := by decide +kernel
theorem d_Ed_firstDigits_21 : decode b_Ed_firstDigits 21 = .ok (.ldc2_w 152, 3) := by decide +kernel
theorem d_Ed_firstDigits_24 : decode b_Ed_firstDigits 24 = .ok (.lmul, 1) := by decide +kernel
theorem d_Ed_firstDigits_25 : decode b_Ed_firstDigits 25 = .ok (.aload_n 0, 1) := by decide +kernel
theorem d_Ed_firstDigits_26 : decode b_Ed_firstDigits 26 = .ok (.getfield 9, 3) := by decide +kernel
theorem d_Ed_firstDigits_29 : decode b_Ed_firstDigits 29 = .ok (.iload 4, 2) := by decide +kernel
theorem d_Ed_firstDigits_31 : decode b_Ed_firstDigits 31 = .ok (.baload, 1) := by decide +kernel
theorem d_Ed_firstDigits_32 : decode b_Ed_firstDigits 32 = .ok (.i2l, 1) := by decide +kernel
theorem d_Ed_firstDigits_33 : decode b_Ed_firstDigits 33 = .ok (.ladd, 1) := by decide +kernel
theorem d_Ed_firstDigits_34 : decode b_Ed_firstDigits 34 = .ok (.lstore_n 2, 1) := by decide +kernel
theorem d_Ed_firstDigits_35 : decode b_Ed_firstDigits 35 = .ok (.iinc 4 1, 3) := by decide +kernel
theorem d_Ed_firstDigits_38 : decode b_Ed_firstDigits 38 = .ok (.goto (-33), 3) := by decide +kernel
theorem d_Ed_firstDigits_41 : decode b_Ed_firstDigits 41 = .ok (.lload_n 2, 1) := by decide +kernel
theorem d_Ed_firstDigits_42 : decode b_Ed_firstDigits 42 = .ok (.lreturn, 1) := by decide +kernel
theorem d_Ed_isNearerAbove_0 : decode b_Ed_isNearerAbove 0 = .ok (.iload_n 1, 1) := by decide +kernel
theorem d_Ed_isNearerAbove_1 : decode b_Ed_isNearerAbove 1 = .ok (.aload_n 0, 1) := by decide +kernel
theorem d_Ed_isNearerAbove_2 : decode b_Ed_isNearerAbove 2 = .ok (.getfield 20, 3) := by decide +kernel
theorem d_Ed_isNearerAbove_5 : decode b_Ed_isNearerAbove 5 = .ok (.if_icmp .lt 5, 3) := by decide +kernel
theorem d_Ed_isNearerAbove_8 : decode b_Ed_isNearerAbove 8 = .ok (.iconst 0, 1) := by decide +kernel
theorem d_Ed_isNearerAbove_9 : decode b_Ed_isNearerAbove 9 = .ok (.ireturn, 1) := by decide +kernel
theorem d_Ed_isNearerAbove_10 : decode b_Ed_isNearerAbove 10 = .ok (.aload_n 0, 1) := by decide +kernel
theorem d_Ed_isNearerAbove_11 : decode b_Ed_isNearerAbove 11 = .ok (.getfield 9, 3) := by decide +kernel
theorem d_Ed_isNearerAbove_14 : decode b_Ed_isNearerAbove 14 = .ok (.iload_n 1, 1) := by decide +kernel
theorem d_Ed_isNearerAbove_15 : decode b_Ed_isNearerAbove 15 = .ok (.baload, 1) := by decide +kernel
theorem d_Ed_isNearerAbove_16 : decode b_Ed_isNearerAbove 16 = .ok (.iconst 5, 1) := by decide +kernel
theorem d_Ed_isNearerAbove_17 : decode b_Ed_isNearerAbove 17 = .ok (.if_icmp .eq 19, 3) := by decide +kernel
theorem d_Ed_isNearerAbove_20 : decode b_Ed_isNearerAbove 20 = .ok (.aload_n 0, 1) := by decide +kernel
theorem d_Ed_isNearerAbove_21 : decode b_Ed_isNearerAbove 21 = .ok (.getfield 9, 3) := by decide +kernel
theorem d_Ed_isNearerAbove_24 : decode b_Ed_isNearerAbove 24 = .ok (.iload_n 1, 1) := by decide +kernel
theorem d_Ed_isNearerAbove_25 : decode b_Ed_isNearerAbove 25 = .ok (.baload, 1) := by decide +kernel
theorem d_Ed_isNearerAbove_26 : decode b_Ed_isNearerAbove 26 = .ok (.iconst 5, 1) := by decide +kernel
theorem d_Ed_isNearerAbove_27 : decode b_Ed_isNearerAbove 27 = .ok (.if_icmp .le 7, 3) := by decide +kernel
theorem d_Ed_isNearerAbove_30 : decode b_Ed_isNearerAbove 30 = .ok (.iconst 1, 1) := by decide +kernel
theorem d_Ed_isNearerAbove_31 : decode b_Ed_isNearerAbove 31 = .ok (.goto 4, 3) := by decide +kernel
theorem d_Ed_isNearerAbove_34 : decode b_Ed_isNearerAbove 34 = .ok (.iconst 0, 1) := by decide +kernel
theorem d_Ed_isNearerAbove_35 : decode b_Ed_isNearerAbove 35 = .ok (.ireturn, 1) := by decide +kernel
theorem d_Ed_isNearerAbove_36 : decode b_Ed_isNearerAbove 36 = .ok (.aload_n 0, 1) := by decide +kernel
theorem d_Ed_isNearerAbove_37 : decode b_Ed_isNearerAbove 37 = .ok (.getfield 20, 3) := by decide +kernel
theorem d_Ed_isNearerAbove_40 : decode b_Ed_isNearerAbove 40 = .ok (.iload_n 1, 1) := by decide +kernel
theorem d_Ed_isNearerAbove_41 : decode b_Ed_isNearerAbove 41 = .ok (.iconst 1, 1) := by decide +kernel
theorem d_Ed_isNearerAbove_42 : decode b_Ed_isNearerAbove 42 = .ok (.iadd, 1) := by decide +kernel
theorem d_Ed_isNearerAbove_43 : decode b_Ed_isNearerAbove 43 = .ok (.if_icmp .gt 11, 3) := by decide +kernel
theorem d_Ed_isNearerAbove_46 : decode b_Ed_isNearerAbove 46 = .ok (.lload_n 2, 1) := by decide +kernel
theorem d_Ed_isNearerAbove_47 : decode b_Ed_isNearerAbove 47 = .ok (.lconst 1, 1) := by decide +kernel
theorem d_Ed_isNearerAbove_48 : decode b_Ed_isNearerAbove 48 = .ok (.land, 1) := by decide +kernel
theorem d_Ed_isNearerAbove_49 : decode b_Ed_isNearerAbove 49 = .ok (.lconst 0, 1) := by decide +kernel
theorem d_Ed_isNearerAbove_50 : decode b_Ed_isNearerAbove 50 = .ok (.lcmp, 1) := by decide +kernel
theorem d_Ed_isNearerAbove_51 : decode b_Ed_isNearerAbove 51 = .ok (.ifCond .eq 7, 3) := by decide +kernel
theorem d_Ed_isNearerAbove_54 : decode b_Ed_isNearerAbove 54 = .ok (.iconst 1, 1) := by decide +kernel
theorem d_Ed_isNearerAbove_55 : decode b_Ed_isNearerAbove 55 = .ok (.goto 4, 3) := by decide +kernel
theorem d_Ed_isNearerAbove_58 : decode b_Ed_isNearerAbove 58 = .ok (.iconst 0, 1) := by decide +kernel
theorem d_Ed_isNearerAbove_59 : decode b_Ed_isNearerAbove 59 = .ok (.ireturn, 1) := by decide +kernel
theorem d_Ed_readsBack_0 : decode b_Ed_readsBack 0 = .ok (.aload_n 0, 1) := by decide +kernel
theorem d_Ed_readsBack_1 : decode b_Ed_readsBack 1 = .ok (.getfield 16, 3) := by decide +kernel
theorem d_Ed_readsBack_4 : decode b_Ed_readsBack 4 = .ok (.lload_n 1, 1) := by decide +kernel
theorem d_Ed_readsBack_5 : decode b_Ed_readsBack 5 = .ok (.invokevirtual 31, 3) := by decide +kernel
theorem d_Ed_readsBack_8 : decode b_Ed_readsBack 8 = .ok (.aload_n 0, 1) := by decide +kernel
theorem d_Ed_readsBack_9 : decode b_Ed_readsBack 9 = .ok (.iload_n 3, 1) := by decide +kernel
theorem d_Ed_readsBack_10 : decode b_Ed_readsBack 10 = .ok (.iconst 0, 1) := by decide +kernel
theorem d_Ed_readsBack_11 : decode b_Ed_readsBack 11 = .ok (.aload 6, 2) := by decide +kernel
theorem d_Ed_readsBack_13 : decode b_Ed_readsBack 13 = .ok (.invokevirtual 79, 3) := by decide +kernel
theorem d_Ed_readsBack_16 : decode b_Ed_readsBack 16 = .ok (.lload 4, 2) := by decide +kernel
theorem d_Ed_readsBack_18 : decode b_Ed_readsBack 18 = .ok (.lcmp, 1) := by decide +kernel
theorem d_Ed_readsBack_19 : decode b_Ed_readsBack 19 = .ok (.ifCond .ne 7, 3) := by decide +kernel
theorem d_Ed_readsBack_22 : decode b_Ed_readsBack 22 = .ok (.iconst 1, 1) := by decide +kernel
theorem d_Ed_readsBack_23 : decode b_Ed_readsBack 23 = .ok (.goto 4, 3) := by decide +kernel
theorem d_Ed_readsBack_26 : decode b_Ed_readsBack 26 = .ok (.iconst 0, 1) := by decide +kernel
theorem d_Ed_readsBack_27 : decode b_Ed_readsBack 27 = .ok (.ireturn, 1) := by decide +kernel
theorem d_Ed_put_0 : decode b_Ed_put 0 = .ok (.iload_n 2, 1) := by decide +kernel
theorem d_Ed_put_1 : decode b_Ed_put 1 = .ok (.ifCond .lt 26, 3) := by decide +kernel
theorem d_Ed_put_4 : decode b_Ed_put 4 = .ok (.iload_n 2, 1) := by decide +kernel
theorem d_Ed_put_5 : decode b_Ed_put 5 = .ok (.bipush 9, 2) := by decide +kernel
theorem d_Ed_put_7 : decode b_Ed_put 7 = .ok (.if_icmp .gt 20, 3) := by decide +kernel
theorem d_Ed_put_10 : decode b_Ed_put 10 = .ok (.iload_n 1, 1) := by decide +kernel
theorem d_Ed_put_11 : decode b_Ed_put 11 = .ok (.sipush 400, 3) := by decide +kernel
theorem d_Ed_put_14 : decode b_Ed_put 14 = .ok (.invokestatic 54, 3) := by decide +kernel
theorem d_Ed_put_17 : decode b_Ed_put 17 = .ok (.ifCond .ne 10, 3) := by decide +kernel
theorem d_Ed_put_20 : decode b_Ed_put 20 = .ok (.aload_n 0, 1) := by decide +kernel
theorem d_Ed_put_21 : decode b_Ed_put 21 = .ok (.getfield 27, 3) := by decide +kernel
theorem d_Ed_put_24 : decode b_Ed_put 24 = .ok (.ifCond .eq 11, 3) := by decide +kernel
theorem d_Ed_put_27 : decode b_Ed_put 27 = .ok (.new 58, 3) := by decide +kernel
theorem d_Ed_put_30 : decode b_Ed_put 30 = .ok (.dup, 1) := by decide +kernel
theorem d_Ed_put_31 : decode b_Ed_put 31 = .ok (.invokespecial 60, 3) := by decide +kernel
theorem d_Ed_put_34 : decode b_Ed_put 34 = .ok (.athrow, 1) := by decide +kernel
theorem d_Ed_put_35 : decode b_Ed_put 35 = .ok (.aload_n 0, 1) := by decide +kernel
theorem d_Ed_put_36 : decode b_Ed_put 36 = .ok (.getfield 20, 3) := by decide +kernel
theorem d_Ed_put_39 : decode b_Ed_put 39 = .ok (.ifCond .ne 7, 3) := by decide +kernel
theorem d_Ed_put_42 : decode b_Ed_put 42 = .ok (.iconst 0, 1) := by decide +kernel
theorem d_Ed_put_43 : decode b_Ed_put 43 = .ok (.goto 9, 3) := by decide +kernel
theorem d_Ed_put_46 : decode b_Ed_put 46 = .ok (.aload_n 0, 1) := by decide +kernel
theorem d_Ed_put_47 : decode b_Ed_put 47 = .ok (.getfield 24, 3) := by decide +kernel
theorem d_Ed_put_50 : decode b_Ed_put 50 = .ok (.iload_n 1, 1) := by decide +kernel
theorem d_Ed_put_51 : decode b_Ed_put 51 = .ok (.iadd, 1) := by decide +kernel
theorem d_Ed_put_52 : decode b_Ed_put 52 = .ok (.istore_n 3, 1) := by decide +kernel
theorem d_Ed_put_53 : decode b_Ed_put 53 = .ok (.iload_n 3, 1) := by decide +kernel
theorem d_Ed_put_54 : decode b_Ed_put 54 = .ok (.aload_n 0, 1) := by decide +kernel
theorem d_Ed_put_55 : decode b_Ed_put 55 = .ok (.getfield 20, 3) := by decide +kernel
theorem d_Ed_put_58 : decode b_Ed_put 58 = .ok (.if_icmp .lt 10, 3) := by decide +kernel
theorem d_Ed_put_61 : decode b_Ed_put 61 = .ok (.iload_n 3, 1) := by decide +kernel
theorem d_Ed_put_62 : decode b_Ed_put 62 = .ok (.sipush 1200, 3) := by decide +kernel
theorem d_Ed_put_65 : decode b_Ed_put 65 = .ok (.if_icmp .lt 11, 3) := by decide +kernel
theorem d_Ed_put_68 : decode b_Ed_put 68 = .ok (.new 58, 3) := by decide +kernel
theorem d_Ed_put_71 : decode b_Ed_put 71 = .ok (.dup, 1) := by decide +kernel
theorem d_Ed_put_72 : decode b_Ed_put 72 = .ok (.invokespecial 60, 3) := by decide +kernel
theorem d_Ed_put_75 : decode b_Ed_put 75 = .ok (.athrow, 1) := by decide +kernel
theorem d_Ed_put_76 : decode b_Ed_put 76 = .ok (.iload_n 2, 1) := by decide +kernel
theorem d_Ed_put_77 : decode b_Ed_put 77 = .ok (.ifCond .eq 10, 3) := by decide +kernel
theorem d_Ed_put_80 : decode b_Ed_put 80 = .ok (.aload_n 0, 1) := by decide +kernel
theorem d_Ed_put_81 : decode b_Ed_put 81 = .ok (.iload_n 3, 1) := by decide +kernel
theorem d_Ed_put_82 : decode b_Ed_put 82 = .ok (.iload_n 1, 1) := by decide +kernel
theorem d_Ed_put_83 : decode b_Ed_put 83 = .ok (.iload_n 2, 1) := by decide +kernel
theorem d_Ed_put_84 : decode b_Ed_put 84 = .ok (.invokevirtual 61, 3) := by decide +kernel
theorem d_Ed_put_87 : decode b_Ed_put 87 = .ok (.aload_n 0, 1) := by decide +kernel
theorem d_Ed_put_88 : decode b_Ed_put 88 = .ok (.getfield 20, 3) := by decide +kernel
theorem d_Ed_put_91 : decode b_Ed_put 91 = .ok (.ireturn, 1) := by decide +kernel
theorem d_Ed_isBeyond_0 : decode b_Ed_isBeyond 0 = .ok (.iload_n 0, 1) := by decide +kernel
theorem d_Ed_isBeyond_1 : decode b_Ed_isBeyond 1 = .ok (.iload_n 1, 1) := by decide +kernel
theorem d_Ed_isBeyond_2 : decode b_Ed_isBeyond 2 = .ok (.ineg, 1) := by decide +kernel
theorem d_Ed_isBeyond_3 : decode b_Ed_isBeyond 3 = .ok (.if_icmp .lt 8, 3) := by decide +kernel
theorem d_Ed_isBeyond_6 : decode b_Ed_isBeyond 6 = .ok (.iload_n 0, 1) := by decide +kernel
theorem d_Ed_isBeyond_7 : decode b_Ed_isBeyond 7 = .ok (.iload_n 1, 1) := by decide +kernel
theorem d_Ed_isBeyond_8 : decode b_Ed_isBeyond 8 = .ok (.if_icmp .le 7, 3) := by decide +kernel
theorem d_Ed_isBeyond_11 : decode b_Ed_isBeyond 11 = .ok (.iconst 1, 1) := by decide +kernel
theorem d_Ed_isBeyond_12 : decode b_Ed_isBeyond 12 = .ok (.goto 4, 3) := by decide +kernel
theorem d_Ed_isBeyond_15 : decode b_Ed_isBeyond 15 = .ok (.iconst 0, 1) := by decide +kernel
theorem d_Ed_isBeyond_16 : decode b_Ed_isBeyond 16 = .ok (.ireturn, 1) := by decide +kernel
theorem d_Ed_append_0 : decode b_Ed_append 0 = .ok (.aload_n 0, 1) := by decide +kernel
theorem d_Ed_append_1 : decode b_Ed_append 1 = .ok (.getfield 20, 3) := by decide +kernel
theorem d_Ed_append_4 : decode b_Ed_append 4 = .ok (.ifCond .ne 9, 3) := by decide +kernel
theorem d_Ed_append_7 : decode b_Ed_append 7 = .ok (.aload_n 0, 1) := by decide +kernel
theorem d_Ed_append_8 : decode b_Ed_append 8 = .ok (.iload_n 2, 1) := by decide +kernel
theorem d_Ed_append_9 : decode b_Ed_append 9 = .ok (.ineg, 1) := by decide +kernel
theorem d_Ed_append_10 : decode b_Ed_append 10 = .ok (.putfield 24, 3) := by decide +kernel
theorem d_Ed_append_13 : decode b_Ed_append 13 = .ok (.aload_n 0, 1) := by decide +kernel
theorem d_Ed_append_14 : decode b_Ed_append 14 = .ok (.getfield 20, 3) := by decide +kernel
theorem d_Ed_append_17 : decode b_Ed_append 17 = .ok (.istore 4, 2) := by decide +kernel
theorem d_Ed_append_19 : decode b_Ed_append 19 = .ok (.iload 4, 2) := by decide +kernel
theorem d_Ed_append_21 : decode b_Ed_append 21 = .ok (.iload_n 1, 1) := by decide +kernel
theorem d_Ed_append_22 : decode b_Ed_append 22 = .ok (.if_icmp .ge 17, 3) := by decide +kernel
theorem d_Ed_append_25 : decode b_Ed_append 25 = .ok (.aload_n 0, 1) := by decide +kernel
theorem d_Ed_append_26 : decode b_Ed_append 26 = .ok (.getfield 9, 3) := by decide +kernel
theorem d_Ed_append_29 : decode b_Ed_append 29 = .ok (.iload 4, 2) := by decide +kernel
theorem d_Ed_append_31 : decode b_Ed_append 31 = .ok (.iconst 0, 1) := by decide +kernel
theorem d_Ed_append_32 : decode b_Ed_append 32 = .ok (.bastore, 1) := by decide +kernel
theorem d_Ed_append_33 : decode b_Ed_append 33 = .ok (.iinc 4 1, 3) := by decide +kernel
theorem d_Ed_append_36 : decode b_Ed_append 36 = .ok (.goto (-17), 3) := by decide +kernel
theorem d_Ed_append_39 : decode b_Ed_append 39 = .ok (.aload_n 0, 1) := by decide +kernel
theorem d_Ed_append_40 : decode b_Ed_append 40 = .ok (.getfield 9, 3) := by decide +kernel
theorem d_Ed_append_43 : decode b_Ed_append 43 = .ok (.iload_n 1, 1) := by decide +kernel
theorem d_Ed_append_44 : decode b_Ed_append 44 = .ok (.iload_n 3, 1) := by decide +kernel
theorem d_Ed_append_45 : decode b_Ed_append 45 = .ok (.i2b, 1) := by decide +kernel
theorem d_Ed_append_46 : decode b_Ed_append 46 = .ok (.bastore, 1) := by decide +kernel
theorem d_Ed_append_47 : decode b_Ed_append 47 = .ok (.aload_n 0, 1) := by decide +kernel
theorem d_Ed_append_48 : decode b_Ed_append 48 = .ok (.iload_n 1, 1) := by decide +kernel
theorem d_Ed_append_49 : decode b_Ed_append 49 = .ok (.iconst 1, 1) := by decide +kernel
theorem d_Ed_append_50 : decode b_Ed_append 50 = .ok (.iadd, 1) := by decide +kernel
theorem d_Ed_append_51 : decode b_Ed_append 51 = .ok (.putfield 20, 3) := by decide +kernel
theorem d_Ed_append_54 : decode b_Ed_append 54 = .ok (.return_, 1) := by decide +kernel
theorem d_Ed_shift_0 : decode b_Ed_shift 0 = .ok (.iload_n 1, 1) := by decide +kernel
theorem d_Ed_shift_1 : decode b_Ed_shift 1 = .ok (.sipush 2200, 3) := by decide +kernel
theorem d_Ed_shift_4 : decode b_Ed_shift 4 = .ok (.invokestatic 54, 3) := by decide +kernel
theorem d_Ed_shift_7 : decode b_Ed_shift 7 = .ok (.ifCond .eq 11, 3) := by decide +kernel
theorem d_Ed_shift_10 : decode b_Ed_shift 10 = .ok (.new 58, 3) := by decide +kernel
theorem d_Ed_shift_13 : decode b_Ed_shift 13 = .ok (.dup, 1) := by decide +kernel
theorem d_Ed_shift_14 : decode b_Ed_shift 14 = .ok (.invokespecial 60, 3) := by decide +kernel
theorem d_Ed_shift_17 : decode b_Ed_shift 17 = .ok (.athrow, 1) := by decide +kernel
theorem d_Ed_shift_18 : decode b_Ed_shift 18 = .ok (.aload_n 0, 1) := by decide +kernel
theorem d_Ed_shift_19 : decode b_Ed_shift 19 = .ok (.getfield 16, 3) := by decide +kernel
theorem d_Ed_shift_22 : decode b_Ed_shift 22 = .ok (.aload_n 0, 1) := by decide +kernel
theorem d_Ed_shift_23 : decode b_Ed_shift 23 = .ok (.getfield 9, 3) := by decide +kernel
theorem d_Ed_shift_26 : decode b_Ed_shift 26 = .ok (.aload_n 0, 1) := by decide +kernel
theorem d_Ed_shift_27 : decode b_Ed_shift 27 = .ok (.getfield 20, 3) := by decide +kernel
theorem d_Ed_shift_30 : decode b_Ed_shift 30 = .ok (.invokevirtual 65, 3) := by decide +kernel
theorem d_Ed_shift_33 : decode b_Ed_shift 33 = .ok (.aload_n 0, 1) := by decide +kernel
theorem d_Ed_shift_34 : decode b_Ed_shift 34 = .ok (.getfield 24, 3) := by decide +kernel
theorem d_Ed_shift_37 : decode b_Ed_shift 37 = .ok (.aload_n 0, 1) := by decide +kernel
theorem d_Ed_shift_38 : decode b_Ed_shift 38 = .ok (.getfield 20, 3) := by decide +kernel
theorem d_Ed_shift_41 : decode b_Ed_shift 41 = .ok (.isub, 1) := by decide +kernel
theorem d_Ed_shift_42 : decode b_Ed_shift 42 = .ok (.aload_n 0, 1) := by decide +kernel
theorem d_Ed_shift_43 : decode b_Ed_shift 43 = .ok (.getfield 16, 3) := by decide +kernel
theorem d_Ed_shift_46 : decode b_Ed_shift 46 = .ok (.iload_n 1, 1) := by decide +kernel
theorem d_Ed_shift_47 : decode b_Ed_shift 47 = .ok (.invokevirtual 69, 3) := by decide +kernel
theorem d_Ed_shift_50 : decode b_Ed_shift 50 = .ok (.iadd, 1) := by decide +kernel
theorem d_Ed_shift_51 : decode b_Ed_shift 51 = .ok (.istore_n 2, 1) := by decide +kernel
theorem d_Ed_shift_52 : decode b_Ed_shift 52 = .ok (.aload_n 0, 1) := by decide +kernel
theorem d_Ed_shift_53 : decode b_Ed_shift 53 = .ok (.getfield 27, 3) := by decide +kernel
theorem d_Ed_shift_56 : decode b_Ed_shift 56 = .ok (.istore_n 3, 1) := by decide +kernel
theorem d_Ed_shift_57 : decode b_Ed_shift 57 = .ok (.aload_n 0, 1) := by decide +kernel
theorem d_Ed_shift_58 : decode b_Ed_shift 58 = .ok (.iload_n 2, 1) := by decide +kernel
theorem d_Ed_shift_59 : decode b_Ed_shift 59 = .ok (.invokevirtual 35, 3) := by decide +kernel
theorem d_Ed_shift_62 : decode b_Ed_shift 62 = .ok (.aload_n 0, 1) := by decide +kernel
theorem d_Ed_shift_63 : decode b_Ed_shift 63 = .ok (.aload_n 0, 1) := by decide +kernel
theorem d_Ed_shift_64 : decode b_Ed_shift 64 = .ok (.getfield 27, 3) := by decide +kernel
theorem d_Ed_shift_67 : decode b_Ed_shift 67 = .ok (.ifCond .ne 7, 3) := by decide +kernel
theorem d_Ed_shift_70 : decode b_Ed_shift 70 = .ok (.iload_n 3, 1) := by decide +kernel
theorem d_Ed_shift_71 : decode b_Ed_shift 71 = .ok (.ifCond .eq 7, 3) := by decide +kernel
theorem d_Ed_shift_74 : decode b_Ed_shift 74 = .ok (.iconst 1, 1) := by decide +kernel
theorem d_Ed_shift_75 : decode b_Ed_shift 75 = .ok (.goto 4, 3) := by decide +kernel
theorem d_Ed_shift_78 : decode b_Ed_shift 78 = .ok (.iconst 0, 1) := by decide +kernel
theorem d_Ed_shift_79 : decode b_Ed_shift 79 = .ok (.putfield 27, 3) := by decide +kernel
theorem d_Ed_shift_82 : decode b_Ed_shift 82 = .ok (.aload_n 0, 1) := by decide +kernel
theorem d_Ed_shift_83 : decode b_Ed_shift 83 = .ok (.getfield 20, 3) := by decide +kernel
theorem d_Ed_shift_86 : decode b_Ed_shift 86 = .ok (.ireturn, 1) := by decide +kernel
theorem d_Ed_move_0 : decode b_Ed_move 0 = .ok (.iload_n 1, 1) := by decide +kernel
theorem d_Ed_move_1 : decode b_Ed_move 1 = .ok (.sipush 5000, 3) := by decide +kernel
theorem d_Ed_move_4 : decode b_Ed_move 4 = .ok (.invokestatic 54, 3) := by decide +kernel
theorem d_Ed_move_7 : decode b_Ed_move 7 = .ok (.ifCond .eq 11, 3) := by decide +kernel
theorem d_Ed_move_10 : decode b_Ed_move 10 = .ok (.new 58, 3) := by decide +kernel
theorem d_Ed_move_13 : decode b_Ed_move 13 = .ok (.dup, 1) := by decide +kernel
theorem d_Ed_move_14 : decode b_Ed_move 14 = .ok (.invokespecial 60, 3) := by decide +kernel
theorem d_Ed_move_17 : decode b_Ed_move 17 = .ok (.athrow, 1) := by decide +kernel
theorem d_Ed_move_18 : decode b_Ed_move 18 = .ok (.aload_n 0, 1) := by decide +kernel
theorem d_Ed_move_19 : decode b_Ed_move 19 = .ok (.getfield 20, 3) := by decide +kernel
theorem d_Ed_move_22 : decode b_Ed_move 22 = .ok (.ifCond .ne 5, 3) := by decide +kernel
theorem d_Ed_move_25 : decode b_Ed_move 25 = .ok (.iconst 0, 1) := by decide +kernel
theorem d_Ed_move_26 : decode b_Ed_move 26 = .ok (.ireturn, 1) := by decide +kernel
theorem d_Ed_move_27 : decode b_Ed_move 27 = .ok (.aload_n 0, 1) := by decide +kernel
theorem d_Ed_move_28 : decode b_Ed_move 28 = .ok (.getfield 24, 3) := by decide +kernel
theorem d_Ed_move_31 : decode b_Ed_move 31 = .ok (.iload_n 1, 1) := by decide +kernel
theorem d_Ed_move_32 : decode b_Ed_move 32 = .ok (.iadd, 1) := by decide +kernel
theorem d_Ed_move_33 : decode b_Ed_move 33 = .ok (.istore_n 2, 1) := by decide +kernel
theorem d_Ed_move_34 : decode b_Ed_move 34 = .ok (.iload_n 2, 1) := by decide +kernel
theorem d_Ed_move_35 : decode b_Ed_move 35 = .ok (.sipush 10000, 3) := by decide +kernel
theorem d_Ed_move_38 : decode b_Ed_move 38 = .ok (.invokestatic 54, 3) := by decide +kernel
theorem d_Ed_move_41 : decode b_Ed_move 41 = .ok (.ifCond .eq 11, 3) := by decide +kernel
theorem d_Ed_move_44 : decode b_Ed_move 44 = .ok (.new 58, 3) := by decide +kernel
theorem d_Ed_move_47 : decode b_Ed_move 47 = .ok (.dup, 1) := by decide +kernel
theorem d_Ed_move_48 : decode b_Ed_move 48 = .ok (.invokespecial 60, 3) := by decide +kernel
theorem d_Ed_move_51 : decode b_Ed_move 51 = .ok (.athrow, 1) := by decide +kernel
theorem d_Ed_move_52 : decode b_Ed_move 52 = .ok (.aload_n 0, 1) := by decide +kernel
theorem d_Ed_move_53 : decode b_Ed_move 53 = .ok (.iload_n 2, 1) := by decide +kernel
theorem d_Ed_move_54 : decode b_Ed_move 54 = .ok (.putfield 24, 3) := by decide +kernel
theorem d_Ed_move_57 : decode b_Ed_move 57 = .ok (.aload_n 0, 1) := by decide +kernel
theorem d_Ed_move_58 : decode b_Ed_move 58 = .ok (.getfield 24, 3) := by decide +kernel
theorem d_Ed_move_61 : decode b_Ed_move 61 = .ok (.ireturn, 1) := by decide +kernel
theorem d_Ed_round_0 : decode b_Ed_round 0 = .ok (.iload_n 1, 1) := by decide +kernel
theorem d_Ed_round_1 : decode b_Ed_round 1 = .ok (.sipush 2000, 3) := by decide +kernel
theorem d_Ed_round_4 : decode b_Ed_round 4 = .ok (.invokestatic 54, 3) := by decide +kernel
theorem d_Ed_round_7 : decode b_Ed_round 7 = .ok (.ifCond .eq 11, 3) := by decide +kernel
theorem d_Ed_round_10 : decode b_Ed_round 10 = .ok (.new 58, 3) := by decide +kernel
theorem d_Ed_round_13 : decode b_Ed_round 13 = .ok (.dup, 1) := by decide +kernel
theorem d_Ed_round_14 : decode b_Ed_round 14 = .ok (.invokespecial 60, 3) := by decide +kernel
theorem d_Ed_round_17 : decode b_Ed_round 17 = .ok (.athrow, 1) := by decide +kernel
theorem d_Ed_round_18 : decode b_Ed_round 18 = .ok (.aload_n 0, 1) := by decide +kernel
theorem d_Ed_round_19 : decode b_Ed_round 19 = .ok (.getfield 24, 3) := by decide +kernel
theorem d_Ed_round_22 : decode b_Ed_round 22 = .ok (.iload_n 1, 1) := by decide +kernel
theorem d_Ed_round_23 : decode b_Ed_round 23 = .ok (.iadd, 1) := by decide +kernel
theorem d_Ed_round_24 : decode b_Ed_round 24 = .ok (.istore_n 2, 1) := by decide +kernel
theorem d_Ed_round_25 : decode b_Ed_round 25 = .ok (.iload_n 2, 1) := by decide +kernel
theorem d_Ed_round_26 : decode b_Ed_round 26 = .ok (.ifCond .lt 29, 3) := by decide +kernel
theorem d_Ed_round_29 : decode b_Ed_round 29 = .ok (.iload_n 2, 1) := by decide +kernel
theorem d_Ed_round_30 : decode b_Ed_round 30 = .ok (.aload_n 0, 1) := by decide +kernel
theorem d_Ed_round_31 : decode b_Ed_round 31 = .ok (.getfield 20, 3) := by decide +kernel
theorem d_Ed_round_34 : decode b_Ed_round 34 = .ok (.if_icmp .ge 21, 3) := by decide +kernel
theorem d_Ed_round_37 : decode b_Ed_round 37 = .ok (.aload_n 0, 1) := by decide +kernel
theorem d_Ed_round_38 : decode b_Ed_round 38 = .ok (.getfield 9, 3) := by decide +kernel
theorem d_Ed_round_41 : decode b_Ed_round 41 = .ok (.iload_n 2, 1) := by decide +kernel
theorem d_Ed_round_42 : decode b_Ed_round 42 = .ok (.baload, 1) := by decide +kernel
theorem d_Ed_round_43 : decode b_Ed_round 43 = .ok (.iconst 5, 1) := by decide +kernel
theorem d_Ed_round_44 : decode b_Ed_round 44 = .ok (.if_icmp .lt 11, 3) := by decide +kernel
theorem d_Ed_round_47 : decode b_Ed_round 47 = .ok (.aload_n 0, 1) := by decide +kernel
theorem d_Ed_round_48 : decode b_Ed_round 48 = .ok (.iload_n 2, 1) := by decide +kernel
theorem d_Ed_round_49 : decode b_Ed_round 49 = .ok (.invokevirtual 73, 3) := by decide +kernel
theorem d_Ed_round_52 : decode b_Ed_round 52 = .ok (.goto 8, 3) := by decide +kernel
theorem d_Ed_round_55 : decode b_Ed_round 55 = .ok (.aload_n 0, 1) := by decide +kernel
theorem d_Ed_round_56 : decode b_Ed_round 56 = .ok (.iload_n 2, 1) := by decide +kernel
theorem d_Ed_round_57 : decode b_Ed_round 57 = .ok (.invokevirtual 76, 3) := by decide +kernel
theorem d_Ed_round_60 : decode b_Ed_round 60 = .ok (.aload_n 0, 1) := by decide +kernel
theorem d_Ed_round_61 : decode b_Ed_round 61 = .ok (.getfield 20, 3) := by decide +kernel
theorem d_Ed_round_64 : decode b_Ed_round 64 = .ok (.ireturn, 1) := by decide +kernel
theorem d_Ed_keepFirstAndOneMore_0 : decode b_Ed_keepFirstAndOneMore 0 = .ok (.iload_n 1, 1) := by decide +kernel
theorem d_Ed_keepFirstAndOneMore_1 : decode b_Ed_keepFirstAndOneMore 1 = .ok (.iconst 1, 1) := by decide +kernel
theorem d_Ed_keepFirstAndOneMore_2 : decode b_Ed_keepFirstAndOneMore 2 = .ok (.isub, 1) := by decide +kernel
theorem d_Ed_keepFirstAndOneMore_3 : decode b_Ed_keepFirstAndOneMore 3 = .ok (.istore_n 2, 1) := by decide +kernel
theorem d_Ed_keepFirstAndOneMore_4 : decode b_Ed_keepFirstAndOneMore 4 = .ok (.iload_n 2, 1) := by decide +kernel
theorem d_Ed_keepFirstAndOneMore_5 : decode b_Ed_keepFirstAndOneMore 5 = .ok (.ifCond .lt 20, 3) := by decide +kernel
theorem d_Ed_keepFirstAndOneMore_8 : decode b_Ed_keepFirstAndOneMore 8 = .ok (.aload_n 0, 1) := by decide +kernel
theorem d_Ed_keepFirstAndOneMore_9 : decode b_Ed_keepFirstAndOneMore 9 = .ok (.getfield 9, 3) := by decide +kernel
theorem d_Ed_keepFirstAndOneMore_12 : decode b_Ed_keepFirstAndOneMore 12 = .ok (.iload_n 2, 1) := by decide +kernel
theorem d_Ed_keepFirstAndOneMore_13 : decode b_Ed_keepFirstAndOneMore 13 = .ok (.baload, 1) := by decide +kernel
theorem d_Ed_keepFirstAndOneMore_14 : decode b_Ed_keepFirstAndOneMore 14 = .ok (.bipush 9, 2) := by decide +kernel
theorem d_Ed_keepFirstAndOneMore_16 : decode b_Ed_keepFirstAndOneMore 16 = .ok (.if_icmp .ne 9, 3) := by decide +kernel
theorem d_Ed_keepFirstAndOneMore_19 : decode b_Ed_keepFirstAndOneMore 19 = .ok (.iinc 2 (-1), 3) := by decide +kernel
theorem d_Ed_keepFirstAndOneMore_22 : decode b_Ed_keepFirstAndOneMore 22 = .ok (.goto (-18), 3) := by decide +kernel
theorem d_Ed_keepFirstAndOneMore_25 : decode b_Ed_keepFirstAndOneMore 25 = .ok (.iload_n 2, 1) := by decide +kernel
theorem d_Ed_keepFirstAndOneMore_26 : decode b_Ed_keepFirstAndOneMore 26 = .ok (.ifCond .ge 28, 3) := by decide +kernel
theorem d_Ed_keepFirstAndOneMore_29 : decode b_Ed_keepFirstAndOneMore 29 = .ok (.aload_n 0, 1) := by decide +kernel
theorem d_Ed_keepFirstAndOneMore_30 : decode b_Ed_keepFirstAndOneMore 30 = .ok (.getfield 9, 3) := by decide +kernel
theorem d_Ed_keepFirstAndOneMore_33 : decode b_Ed_keepFirstAndOneMore 33 = .ok (.iconst 0, 1) := by decide +kernel
theorem d_Ed_keepFirstAndOneMore_34 : decode b_Ed_keepFirstAndOneMore 34 = .ok (.iconst 1, 1) := by decide +kernel
theorem d_Ed_keepFirstAndOneMore_35 : decode b_Ed_keepFirstAndOneMore 35 = .ok (.bastore, 1) := by decide +kernel
theorem d_Ed_keepFirstAndOneMore_36 : decode b_Ed_keepFirstAndOneMore 36 = .ok (.aload_n 0, 1) := by decide +kernel
theorem d_Ed_keepFirstAndOneMore_37 : decode b_Ed_keepFirstAndOneMore 37 = .ok (.iconst 1, 1) := by decide +kernel
theorem d_Ed_keepFirstAndOneMore_38 : decode b_Ed_keepFirstAndOneMore 38 = .ok (.putfield 20, 3) := by decide +kernel
theorem d_Ed_keepFirstAndOneMore_41 : decode b_Ed_keepFirstAndOneMore 41 = .ok (.aload_n 0, 1) := by decide +kernel
theorem d_Ed_keepFirstAndOneMore_42 : decode b_Ed_keepFirstAndOneMore 42 = .ok (.dup, 1) := by decide +kernel
theorem d_Ed_keepFirstAndOneMore_43 : decode b_Ed_keepFirstAndOneMore 43 = .ok (.getfield 24, 3) := by decide +kernel
theorem d_Ed_keepFirstAndOneMore_46 : decode b_Ed_keepFirstAndOneMore 46 = .ok (.iconst 1, 1) := by decide +kernel
theorem d_Ed_keepFirstAndOneMore_47 : decode b_Ed_keepFirstAndOneMore 47 = .ok (.iadd, 1) := by decide +kernel
theorem d_Ed_keepFirstAndOneMore_48 : decode b_Ed_keepFirstAndOneMore 48 = .ok (.putfield 24, 3) := by decide +kernel
theorem d_Ed_keepFirstAndOneMore_51 : decode b_Ed_keepFirstAndOneMore 51 = .ok (.goto 21, 3) := by decide +kernel
theorem d_Ed_keepFirstAndOneMore_54 : decode b_Ed_keepFirstAndOneMore 54 = .ok (.aload_n 0, 1) := by decide +kernel
theorem d_Ed_keepFirstAndOneMore_55 : decode b_Ed_keepFirstAndOneMore 55 = .ok (.getfield 9, 3) := by decide +kernel
theorem d_Ed_keepFirstAndOneMore_58 : decode b_Ed_keepFirstAndOneMore 58 = .ok (.iload_n 2, 1) := by decide +kernel
theorem d_Ed_keepFirstAndOneMore_59 : decode b_Ed_keepFirstAndOneMore 59 = .ok (.dup2, 1) := by decide +kernel
theorem d_Ed_keepFirstAndOneMore_60 : decode b_Ed_keepFirstAndOneMore 60 = .ok (.baload, 1) := by decide +kernel
theorem d_Ed_keepFirstAndOneMore_61 : decode b_Ed_keepFirstAndOneMore 61 = .ok (.iconst 1, 1) := by decide +kernel
theorem d_Ed_keepFirstAndOneMore_62 : decode b_Ed_keepFirstAndOneMore 62 = .ok (.iadd, 1) := by decide +kernel
theorem d_Ed_keepFirstAndOneMore_63 : decode b_Ed_keepFirstAndOneMore 63 = .ok (.i2b, 1) := by decide +kernel
theorem d_Ed_keepFirstAndOneMore_64 : decode b_Ed_keepFirstAndOneMore 64 = .ok (.bastore, 1) := by decide +kernel
theorem d_Ed_keepFirstAndOneMore_65 : decode b_Ed_keepFirstAndOneMore 65 = .ok (.aload_n 0, 1) := by decide +kernel
theorem d_Ed_keepFirstAndOneMore_66 : decode b_Ed_keepFirstAndOneMore 66 = .ok (.iload_n 2, 1) := by decide +kernel
theorem d_Ed_keepFirstAndOneMore_67 : decode b_Ed_keepFirstAndOneMore 67 = .ok (.iconst 1, 1) := by decide +kernel
theorem d_Ed_keepFirstAndOneMore_68 : decode b_Ed_keepFirstAndOneMore 68 = .ok (.iadd, 1) := by decide +kernel
theorem d_Ed_keepFirstAndOneMore_69 : decode b_Ed_keepFirstAndOneMore 69 = .ok (.putfield 20, 3) := by decide +kernel
theorem d_Ed_keepFirstAndOneMore_72 : decode b_Ed_keepFirstAndOneMore 72 = .ok (.aload_n 0, 1) := by decide +kernel
theorem d_Ed_keepFirstAndOneMore_73 : decode b_Ed_keepFirstAndOneMore 73 = .ok (.iconst 0, 1) := by decide +kernel
theorem d_Ed_keepFirstAndOneMore_74 : decode b_Ed_keepFirstAndOneMore 74 = .ok (.putfield 27, 3) := by decide +kernel
theorem d_Ed_keepFirstAndOneMore_77 : decode b_Ed_keepFirstAndOneMore 77 = .ok (.return_, 1) := by decide +kernel
theorem d_Ed_keepFirst_0 : decode b_Ed_keepFirst 0 = .ok (.aload_n 0, 1) := by decide +kernel
theorem d_Ed_keepFirst_1 : decode b_Ed_keepFirst 1 = .ok (.aload_n 0, 1) := by decide +kernel
theorem d_Ed_keepFirst_2 : decode b_Ed_keepFirst 2 = .ok (.getfield 20, 3) := by decide +kernel
theorem d_Ed_keepFirst_5 : decode b_Ed_keepFirst 5 = .ok (.iload_n 1, 1) := by decide +kernel
theorem d_Ed_keepFirst_6 : decode b_Ed_keepFirst 6 = .ok (.iconst 0, 1) := by decide +kernel
theorem d_Ed_keepFirst_7 : decode b_Ed_keepFirst 7 = .ok (.invokestatic 131, 3) := by decide +kernel
theorem d_Ed_keepFirst_10 : decode b_Ed_keepFirst 10 = .ok (.invokestatic 115, 3) := by decide +kernel
theorem d_Ed_keepFirst_13 : decode b_Ed_keepFirst 13 = .ok (.putfield 20, 3) := by decide +kernel
theorem d_Ed_keepFirst_16 : decode b_Ed_keepFirst 16 = .ok (.aload_n 0, 1) := by decide +kernel
theorem d_Ed_keepFirst_17 : decode b_Ed_keepFirst 17 = .ok (.iconst 0, 1) := by decide +kernel
theorem d_Ed_keepFirst_18 : decode b_Ed_keepFirst 18 = .ok (.putfield 27, 3) := by decide +kernel
theorem d_Ed_keepFirst_21 : decode b_Ed_keepFirst 21 = .ok (.aload_n 0, 1) := by decide +kernel
theorem d_Ed_keepFirst_22 : decode b_Ed_keepFirst 22 = .ok (.invokevirtual 121, 3) := by decide +kernel
theorem d_Ed_keepFirst_25 : decode b_Ed_keepFirst 25 = .ok (.return_, 1) := by decide +kernel
theorem d_Ed_cut_0 : decode b_Ed_cut 0 = .ok (.iload_n 1, 1) := by decide +kernel
theorem d_Ed_cut_1 : decode b_Ed_cut 1 = .ok (.sipush 2000, 3) := by decide +kernel
theorem d_Ed_cut_4 : decode b_Ed_cut 4 = .ok (.invokestatic 54, 3) := by decide +kernel
theorem d_Ed_cut_7 : decode b_Ed_cut 7 = .ok (.ifCond .eq 11, 3) := by decide +kernel
theorem d_Ed_cut_10 : decode b_Ed_cut 10 = .ok (.new 58, 3) := by decide +kernel
theorem d_Ed_cut_13 : decode b_Ed_cut 13 = .ok (.dup, 1) := by decide +kernel
theorem d_Ed_cut_14 : decode b_Ed_cut 14 = .ok (.invokespecial 60, 3) := by decide +kernel
theorem d_Ed_cut_17 : decode b_Ed_cut 17 = .ok (.athrow, 1) := by decide +kernel
theorem d_Ed_cut_18 : decode b_Ed_cut 18 = .ok (.aload_n 0, 1) := by decide +kernel
theorem d_Ed_cut_19 : decode b_Ed_cut 19 = .ok (.aload_n 0, 1) := by decide +kernel
theorem d_Ed_cut_20 : decode b_Ed_cut 20 = .ok (.getfield 24, 3) := by decide +kernel
theorem d_Ed_cut_23 : decode b_Ed_cut 23 = .ok (.iload_n 1, 1) := by decide +kernel
theorem d_Ed_cut_24 : decode b_Ed_cut 24 = .ok (.iadd, 1) := by decide +kernel
theorem d_Ed_cut_25 : decode b_Ed_cut 25 = .ok (.invokevirtual 76, 3) := by decide +kernel
theorem d_Ed_cut_28 : decode b_Ed_cut 28 = .ok (.aload_n 0, 1) := by decide +kernel
theorem d_Ed_cut_29 : decode b_Ed_cut 29 = .ok (.getfield 20, 3) := by decide +kernel
theorem d_Ed_cut_32 : decode b_Ed_cut 32 = .ok (.ireturn, 1) := by decide +kernel
theorem d_Ed_told_0 : decode b_Ed_told 0 = .ok (.iload_n 1, 1) := by decide +kernel
theorem d_Ed_told_1 : decode b_Ed_told 1 = .ok (.tableswitch 50 0 2 #[27, 32, 37], 27) := by decide +kernel
theorem d_Ed_told_28 : decode b_Ed_told 28 = .ok (.aload_n 0, 1) := by decide +kernel
theorem d_Ed_told_29 : decode b_Ed_told 29 = .ok (.getfield 20, 3) := by decide +kernel
theorem d_Ed_told_32 : decode b_Ed_told 32 = .ok (.ireturn, 1) := by decide +kernel
theorem d_Ed_told_33 : decode b_Ed_told 33 = .ok (.aload_n 0, 1) := by decide +kernel
theorem d_Ed_told_34 : decode b_Ed_told 34 = .ok (.getfield 24, 3) := by decide +kernel
theorem d_Ed_told_37 : decode b_Ed_told 37 = .ok (.ireturn, 1) := by decide +kernel
theorem d_Ed_told_38 : decode b_Ed_told 38 = .ok (.aload_n 0, 1) := by decide +kernel
theorem d_Ed_told_39 : decode b_Ed_told 39 = .ok (.getfield 27, 3) := by decide +kernel
theorem d_Ed_told_42 : decode b_Ed_told 42 = .ok (.ifCond .eq 7, 3) := by decide +kernel
theorem d_Ed_told_45 : decode b_Ed_told 45 = .ok (.iconst 1, 1) := by decide +kernel
theorem d_Ed_told_46 : decode b_Ed_told 46 = .ok (.goto 4, 3) := by decide +kernel
theorem d_Ed_told_49 : decode b_Ed_told 49 = .ok (.iconst 0, 1) := by decide +kernel
theorem d_Ed_told_50 : decode b_Ed_told 50 = .ok (.ireturn, 1) := by decide +kernel
theorem d_Ed_told_51 : decode b_Ed_told 51 = .ok (.new 58, 3) := by decide +kernel
theorem d_Ed_told_54 : decode b_Ed_told 54 = .ok (.dup, 1) := by decide +kernel
theorem d_Ed_told_55 : decode b_Ed_told 55 = .ok (.invokespecial 60, 3) := by decide +kernel
theorem d_Ed_told_58 : decode b_Ed_told 58 = .ok (.athrow, 1) := by decide +kernel
end
section
theorem d_De_init_0 : decode b_De_init 0 = .ok (.aload_n 0, 1) := by decide +kernel
theorem d_De_init_1 : decode b_De_init 1 = .ok (.invokespecial 3, 3) := by decide +kernel
theorem d_De_init_4 : decode b_De_init 4 = .ok (.aload_n 0, 1) := by decide +kernel
theorem d_De_init_5 : decode b_De_init 5 = .ok (.sipush 465, 3) := by decide +kernel
theorem d_De_init_8 : decode b_De_init 8 = .ok (.newarray .int, 2) := by decide +kernel
theorem d_De_init_10 : decode b_De_init 10 = .ok (.putfield 9, 3) := by decide +kernel
theorem d_De_init_13 : decode b_De_init 13 = .ok (.aload_n 0, 1) := by decide +kernel
theorem d_De_init_14 : decode b_De_init 14 = .ok (.bipush 45, 2) := by decide +kernel
theorem d_De_init_16 : decode b_De_init 16 = .ok (.putfield 15, 3) := by decide +kernel
theorem d_De_init_19 : decode b_De_init 19 = .ok (.aload_n 0, 1) := by decide +kernel
theorem d_De_init_20 : decode b_De_init 20 = .ok (.bipush 45, 2) := by decide +kernel
theorem d_De_init_22 : decode b_De_init 22 = .ok (.putfield 19, 3) := by decide +kernel
theorem d_De_init_25 : decode b_De_init 25 = .ok (.return_, 1) := by decide +kernel
theorem d_De_clear_0 : decode b_De_clear 0 = .ok (.aload_n 0, 1) := by decide +kernel
theorem d_De_clear_1 : decode b_De_clear 1 = .ok (.getfield 15, 3) := by decide +kernel
theorem d_De_clear_4 : decode b_De_clear 4 = .ok (.istore_n 1, 1) := by decide +kernel
theorem d_De_clear_5 : decode b_De_clear 5 = .ok (.iload_n 1, 1) := by decide +kernel
theorem d_De_clear_6 : decode b_De_clear 6 = .ok (.aload_n 0, 1) := by decide +kernel
theorem d_De_clear_7 : decode b_De_clear 7 = .ok (.getfield 19, 3) := by decide +kernel
theorem d_De_clear_10 : decode b_De_clear 10 = .ok (.if_icmp .ge 16, 3) := by decide +kernel
theorem d_De_clear_13 : decode b_De_clear 13 = .ok (.aload_n 0, 1) := by decide +kernel
theorem d_De_clear_14 : decode b_De_clear 14 = .ok (.getfield 9, 3) := by decide +kernel
theorem d_De_clear_17 : decode b_De_clear 17 = .ok (.iload_n 1, 1) := by decide +kernel
theorem d_De_clear_18 : decode b_De_clear 18 = .ok (.iconst 0, 1) := by decide +kernel
theorem d_De_clear_19 : decode b_De_clear 19 = .ok (.iastore, 1) := by decide +kernel
theorem d_De_clear_20 : decode b_De_clear 20 = .ok (.iinc 1 1, 3) := by decide +kernel
theorem d_De_clear_23 : decode b_De_clear 23 = .ok (.goto (-18), 3) := by decide +kernel
theorem d_De_clear_26 : decode b_De_clear 26 = .ok (.aload_n 0, 1) := by decide +kernel
theorem d_De_clear_27 : decode b_De_clear 27 = .ok (.bipush 45, 2) := by decide +kernel
theorem d_De_clear_29 : decode b_De_clear 29 = .ok (.putfield 15, 3) := by decide +kernel
theorem d_De_clear_32 : decode b_De_clear 32 = .ok (.aload_n 0, 1) := by decide +kernel
theorem d_De_clear_33 : decode b_De_clear 33 = .ok (.bipush 45, 2) := by decide +kernel
theorem d_De_clear_35 : decode b_De_clear 35 = .ok (.putfield 19, 3) := by decide +kernel
theorem d_De_clear_38 : decode b_De_clear 38 = .ok (.return_, 1) := by decide +kernel
theorem d_De_add_0 : decode b_De_add 0 = .ok (.iload_n 2, 1) := by decide +kernel
theorem d_De_add_1 : decode b_De_add 1 = .ok (.ifCond .lt 13, 3) := by decide +kernel
theorem d_De_add_4 : decode b_De_add 4 = .ok (.bipush 44, 2) := by decide +kernel
theorem d_De_add_6 : decode b_De_add 6 = .ok (.iload_n 2, 1) := by decide +kernel
theorem d_De_add_7 : decode b_De_add 7 = .ok (.bipush 9, 2) := by decide +kernel
theorem d_De_add_9 : decode b_De_add 9 = .ok (.idiv, 1) := by decide +kernel
theorem d_De_add_10 : decode b_De_add 10 = .ok (.isub, 1) := by decide +kernel
theorem d_De_add_11 : decode b_De_add 11 = .ok (.goto 13, 3) := by decide +kernel
theorem d_De_add_14 : decode b_De_add 14 = .ok (.bipush 45, 2) := by decide +kernel
theorem d_De_add_16 : decode b_De_add 16 = .ok (.iload_n 2, 1) := by decide +kernel
theorem d_De_add_17 : decode b_De_add 17 = .ok (.ineg, 1) := by decide +kernel
theorem d_De_add_18 : decode b_De_add 18 = .ok (.iconst 1, 1) := by decide +kernel
theorem d_De_add_19 : decode b_De_add 19 = .ok (.isub, 1) := by decide +kernel
theorem d_De_add_20 : decode b_De_add 20 = .ok (.bipush 9, 2) := by decide +kernel
theorem d_De_add_22 : decode b_De_add 22 = .ok (.idiv, 1) := by decide +kernel
theorem d_De_add_23 : decode b_De_add 23 = .ok (.iadd, 1) := by decide +kernel
theorem d_De_add_24 : decode b_De_add 24 = .ok (.istore_n 3, 1) := by decide +kernel
theorem d_De_add_25 : decode b_De_add 25 = .ok (.iload_n 2, 1) := by decide +kernel
theorem d_De_add_26 : decode b_De_add 26 = .ok (.ifCond .lt 10, 3) := by decide +kernel
theorem d_De_add_29 : decode b_De_add 29 = .ok (.iload_n 2, 1) := by decide +kernel
theorem d_De_add_30 : decode b_De_add 30 = .ok (.bipush 9, 2) := by decide +kernel
theorem d_De_add_32 : decode b_De_add 32 = .ok (.irem, 1) := by decide +kernel
theorem d_De_add_33 : decode b_De_add 33 = .ok (.goto 13, 3) := by decide +kernel
theorem d_De_add_36 : decode b_De_add 36 = .ok (.bipush 8, 2) := by decide +kernel
theorem d_De_add_38 : decode b_De_add 38 = .ok (.iload_n 2, 1) := by decide +kernel
theorem d_De_add_39 : decode b_De_add 39 = .ok (.ineg, 1) := by decide +kernel
theorem d_De_add_40 : decode b_De_add 40 = .ok (.iconst 1, 1) := by decide +kernel
theorem d_De_add_41 : decode b_De_add 41 = .ok (.isub, 1) := by decide +kernel
theorem d_De_add_42 : decode b_De_add 42 = .ok (.bipush 9, 2) := by decide +kernel
theorem d_De_add_44 : decode b_De_add 44 = .ok (.irem, 1) := by decide +kernel
theorem d_De_add_45 : decode b_De_add 45 = .ok (.isub, 1) := by decide +kernel
theorem d_De_add_46 : decode b_De_add 46 = .ok (.istore 4, 2) := by decide +kernel
theorem d_De_add_48 : decode b_De_add 48 = .ok (.iload_n 1, 1) := by decide +kernel
theorem d_De_add_49 : decode b_De_add 49 = .ok (.istore 5, 2) := by decide +kernel
theorem d_De_add_51 : decode b_De_add 51 = .ok (.iconst 0, 1) := by decide +kernel
theorem d_De_add_52 : decode b_De_add 52 = .ok (.istore 6, 2) := by decide +kernel
theorem d_De_add_54 : decode b_De_add 54 = .ok (.iload 6, 2) := by decide +kernel
theorem d_De_add_56 : decode b_De_add 56 = .ok (.iload 4, 2) := by decide +kernel
theorem d_De_add_58 : decode b_De_add 58 = .ok (.if_icmp .ge 16, 3) := by decide +kernel
theorem d_De_add_61 : decode b_De_add 61 = .ok (.iload 5, 2) := by decide +kernel
theorem d_De_add_63 : decode b_De_add 63 = .ok (.bipush 10, 2) := by decide +kernel
theorem d_De_add_65 : decode b_De_add 65 = .ok (.imul, 1) := by decide +kernel
theorem d_De_add_66 : decode b_De_add 66 = .ok (.istore 5, 2) := by decide +kernel
theorem d_De_add_68 : decode b_De_add 68 = .ok (.iinc 6 1, 3) := by decide +kernel
theorem d_De_add_71 : decode b_De_add 71 = .ok (.goto (-17), 3) := by decide +kernel
theorem d_De_add_74 : decode b_De_add 74 = .ok (.aload_n 0, 1) := by decide +kernel
theorem d_De_add_75 : decode b_De_add 75 = .ok (.getfield 9, 3) := by decide +kernel
theorem d_De_add_78 : decode b_De_add 78 = .ok (.iload_n 3, 1) := by decide +kernel
theorem d_De_add_79 : decode b_De_add 79 = .ok (.dup2, 1) := by decide +kernel
theorem d_De_add_80 : decode b_De_add 80 = .ok (.iaload, 1) := by decide +kernel
theorem d_De_add_81 : decode b_De_add 81 = .ok (.iload 5, 2) := by decide +kernel
theorem d_De_add_83 : decode b_De_add 83 = .ok (.iadd, 1) := by decide +kernel
theorem d_De_add_84 : decode b_De_add 84 = .ok (.iastore, 1) := by decide +kernel
theorem d_De_add_85 : decode b_De_add 85 = .ok (.aload_n 0, 1) := by decide +kernel
theorem d_De_add_86 : decode b_De_add 86 = .ok (.getfield 15, 3) := by decide +kernel
theorem d_De_add_89 : decode b_De_add 89 = .ok (.aload_n 0, 1) := by decide +kernel
theorem d_De_add_90 : decode b_De_add 90 = .ok (.getfield 19, 3) := by decide +kernel
theorem d_De_add_93 : decode b_De_add 93 = .ok (.if_icmp .ne 15, 3) := by decide +kernel
theorem d_De_add_96 : decode b_De_add 96 = .ok (.aload_n 0, 1) := by decide +kernel
theorem d_De_add_97 : decode b_De_add 97 = .ok (.iload_n 3, 1) := by decide +kernel
theorem d_De_add_98 : decode b_De_add 98 = .ok (.putfield 15, 3) := by decide +kernel
theorem d_De_add_101 : decode b_De_add 101 = .ok (.aload_n 0, 1) := by decide +kernel
theorem d_De_add_102 : decode b_De_add 102 = .ok (.iload_n 3, 1) := by decide +kernel
theorem d_De_add_103 : decode b_De_add 103 = .ok (.iconst 1, 1) := by decide +kernel
theorem d_De_add_104 : decode b_De_add 104 = .ok (.iadd, 1) := by decide +kernel
theorem d_De_add_105 : decode b_De_add 105 = .ok (.putfield 19, 3) := by decide +kernel
theorem d_De_add_108 : decode b_De_add 108 = .ok (.aload_n 0, 1) := by decide +kernel
theorem d_De_add_109 : decode b_De_add 109 = .ok (.aload_n 0, 1) := by decide +kernel
theorem d_De_add_110 : decode b_De_add 110 = .ok (.getfield 15, 3) := by decide +kernel
theorem d_De_add_113 : decode b_De_add 113 = .ok (.iload_n 3, 1) := by decide +kernel
theorem d_De_add_114 : decode b_De_add 114 = .ok (.invokestatic 55, 3) := by decide +kernel
theorem d_De_add_117 : decode b_De_add 117 = .ok (.putfield 15, 3) := by decide +kernel
theorem d_De_add_120 : decode b_De_add 120 = .ok (.aload_n 0, 1) := by decide +kernel
theorem d_De_add_121 : decode b_De_add 121 = .ok (.aload_n 0, 1) := by decide +kernel
theorem d_De_add_122 : decode b_De_add 122 = .ok (.getfield 19, 3) := by decide +kernel
theorem d_De_add_125 : decode b_De_add 125 = .ok (.iload_n 3, 1) := by decide +kernel
theorem d_De_add_126 : decode b_De_add 126 = .ok (.iconst 1, 1) := by decide +kernel
theorem d_De_add_127 : decode b_De_add 127 = .ok (.iadd, 1) := by decide +kernel
theorem d_De_add_128 : decode b_De_add 128 = .ok (.invokestatic 45, 3) := by decide +kernel
theorem d_De_add_131 : decode b_De_add 131 = .ok (.putfield 19, 3) := by decide +kernel
theorem d_De_add_134 : decode b_De_add 134 = .ok (.return_, 1) := by decide +kernel
theorem d_De_half_0 : decode b_De_half 0 = .ok (.iconst 0, 1) := by decide +kernel
theorem d_De_half_1 : decode b_De_half 1 = .ok (.istore_n 1, 1) := by decide +kernel
theorem d_De_half_2 : decode b_De_half 2 = .ok (.aload_n 0, 1) := by decide +kernel
theorem d_De_half_3 : decode b_De_half 3 = .ok (.getfield 15, 3) := by decide +kernel
theorem d_De_half_6 : decode b_De_half 6 = .ok (.istore_n 2, 1) := by decide +kernel
theorem d_De_half_7 : decode b_De_half 7 = .ok (.iload_n 2, 1) := by decide +kernel
theorem d_De_half_8 : decode b_De_half 8 = .ok (.aload_n 0, 1) := by decide +kernel
theorem d_De_half_9 : decode b_De_half 9 = .ok (.getfield 19, 3) := by decide +kernel
theorem d_De_half_12 : decode b_De_half 12 = .ok (.if_icmp .ge 45, 3) := by decide +kernel
theorem d_De_half_15 : decode b_De_half 15 = .ok (.aload_n 0, 1) := by decide +kernel
theorem d_De_half_16 : decode b_De_half 16 = .ok (.getfield 9, 3) := by decide +kernel
theorem d_De_half_19 : decode b_De_half 19 = .ok (.iload_n 2, 1) := by decide +kernel
theorem d_De_half_20 : decode b_De_half 20 = .ok (.iaload, 1) := by decide +kernel
theorem d_De_half_21 : decode b_De_half 21 = .ok (.i2l, 1) := by decide +kernel
theorem d_De_half_22 : decode b_De_half 22 = .ok (.iload_n 1, 1) := by decide +kernel
theorem d_De_half_23 : decode b_De_half 23 = .ok (.i2l, 1) := by decide +kernel
theorem d_De_half_24 : decode b_De_half 24 = .ok (.ldc2_w 25, 3) := by decide +kernel
theorem d_De_half_27 : decode b_De_half 27 = .ok (.lmul, 1) := by decide +kernel
theorem d_De_half_28 : decode b_De_half 28 = .ok (.ladd, 1) := by decide +kernel
theorem d_De_half_29 : decode b_De_half 29 = .ok (.ldc2_w 28, 3) := by decide +kernel
theorem d_De_half_32 : decode b_De_half 32 = .ok (.ldiv, 1) := by decide +kernel
theorem d_De_half_33 : decode b_De_half 33 = .ok (.l2i, 1) := by decide +kernel
theorem d_De_half_34 : decode b_De_half 34 = .ok (.istore_n 3, 1) := by decide +kernel
theorem d_De_half_35 : decode b_De_half 35 = .ok (.aload_n 0, 1) := by decide +kernel
theorem d_De_half_36 : decode b_De_half 36 = .ok (.getfield 9, 3) := by decide +kernel
theorem d_De_half_39 : decode b_De_half 39 = .ok (.iload_n 2, 1) := by decide +kernel
theorem d_De_half_40 : decode b_De_half 40 = .ok (.iaload, 1) := by decide +kernel
theorem d_De_half_41 : decode b_De_half 41 = .ok (.iconst 1, 1) := by decide +kernel
theorem d_De_half_42 : decode b_De_half 42 = .ok (.iand, 1) := by decide +kernel
theorem d_De_half_43 : decode b_De_half 43 = .ok (.istore_n 1, 1) := by decide +kernel
theorem d_De_half_44 : decode b_De_half 44 = .ok (.aload_n 0, 1) := by decide +kernel
theorem d_De_half_45 : decode b_De_half 45 = .ok (.getfield 9, 3) := by decide +kernel
theorem d_De_half_48 : decode b_De_half 48 = .ok (.iload_n 2, 1) := by decide +kernel
theorem d_De_half_49 : decode b_De_half 49 = .ok (.iload_n 3, 1) := by decide +kernel
theorem d_De_half_50 : decode b_De_half 50 = .ok (.iastore, 1) := by decide +kernel
theorem d_De_half_51 : decode b_De_half 51 = .ok (.iinc 2 1, 3) := by decide +kernel
theorem d_De_half_54 : decode b_De_half 54 = .ok (.goto (-47), 3) := by decide +kernel
theorem d_De_half_57 : decode b_De_half 57 = .ok (.iload_n 1, 1) := by decide +kernel
theorem d_De_half_58 : decode b_De_half 58 = .ok (.ifCond .le 24, 3) := by decide +kernel
theorem d_De_half_61 : decode b_De_half 61 = .ok (.aload_n 0, 1) := by decide +kernel
theorem d_De_half_62 : decode b_De_half 62 = .ok (.getfield 9, 3) := by decide +kernel
theorem d_De_half_65 : decode b_De_half 65 = .ok (.aload_n 0, 1) := by decide +kernel
theorem d_De_half_66 : decode b_De_half 66 = .ok (.getfield 19, 3) := by decide +kernel
theorem d_De_half_69 : decode b_De_half 69 = .ok (.ldc 30, 2) := by decide +kernel
theorem d_De_half_71 : decode b_De_half 71 = .ok (.iastore, 1) := by decide +kernel
theorem d_De_half_72 : decode b_De_half 72 = .ok (.aload_n 0, 1) := by decide +kernel
theorem d_De_half_73 : decode b_De_half 73 = .ok (.dup, 1) := by decide +kernel
theorem d_De_half_74 : decode b_De_half 74 = .ok (.getfield 19, 3) := by decide +kernel
theorem d_De_half_77 : decode b_De_half 77 = .ok (.iconst 1, 1) := by decide +kernel
theorem d_De_half_78 : decode b_De_half 78 = .ok (.iadd, 1) := by decide +kernel
theorem d_De_half_79 : decode b_De_half 79 = .ok (.putfield 19, 3) := by decide +kernel
theorem d_De_half_82 : decode b_De_half 82 = .ok (.aload_n 0, 1) := by decide +kernel
theorem d_De_half_83 : decode b_De_half 83 = .ok (.getfield 15, 3) := by decide +kernel
theorem d_De_half_86 : decode b_De_half 86 = .ok (.aload_n 0, 1) := by decide +kernel
theorem d_De_half_87 : decode b_De_half 87 = .ok (.getfield 19, 3) := by decide +kernel
theorem d_De_half_90 : decode b_De_half 90 = .ok (.if_icmp .ge 28, 3) := by decide +kernel
theorem d_De_half_93 : decode b_De_half 93 = .ok (.aload_n 0, 1) := by decide +kernel
theorem d_De_half_94 : decode b_De_half 94 = .ok (.getfield 9, 3) := by decide +kernel
theorem d_De_half_97 : decode b_De_half 97 = .ok (.aload_n 0, 1) := by decide +kernel
theorem d_De_half_98 : decode b_De_half 98 = .ok (.getfield 15, 3) := by decide +kernel
theorem d_De_half_101 : decode b_De_half 101 = .ok (.iaload, 1) := by decide +kernel
theorem d_De_half_102 : decode b_De_half 102 = .ok (.ifCond .ne 16, 3) := by decide +kernel
theorem d_De_half_105 : decode b_De_half 105 = .ok (.aload_n 0, 1) := by decide +kernel
theorem d_De_half_106 : decode b_De_half 106 = .ok (.dup, 1) := by decide +kernel
theorem d_De_half_107 : decode b_De_half 107 = .ok (.getfield 15, 3) := by decide +kernel
theorem d_De_half_110 : decode b_De_half 110 = .ok (.iconst 1, 1) := by decide +kernel
theorem d_De_half_111 : decode b_De_half 111 = .ok (.iadd, 1) := by decide +kernel
theorem d_De_half_112 : decode b_De_half 112 = .ok (.putfield 15, 3) := by decide +kernel
theorem d_De_half_115 : decode b_De_half 115 = .ok (.goto (-33), 3) := by decide +kernel
theorem d_De_half_118 : decode b_De_half 118 = .ok (.return_, 1) := by decide +kernel
theorem d_De_twice_0 : decode b_De_twice 0 = .ok (.iconst 0, 1) := by decide +kernel
theorem d_De_twice_1 : decode b_De_twice 1 = .ok (.istore_n 1, 1) := by decide +kernel
theorem d_De_twice_2 : decode b_De_twice 2 = .ok (.aload_n 0, 1) := by decide +kernel
theorem d_De_twice_3 : decode b_De_twice 3 = .ok (.getfield 19, 3) := by decide +kernel
theorem d_De_twice_6 : decode b_De_twice 6 = .ok (.iconst 1, 1) := by decide +kernel
theorem d_De_twice_7 : decode b_De_twice 7 = .ok (.isub, 1) := by decide +kernel
theorem d_De_twice_8 : decode b_De_twice 8 = .ok (.istore_n 2, 1) := by decide +kernel
theorem d_De_twice_9 : decode b_De_twice 9 = .ok (.iload_n 2, 1) := by decide +kernel
theorem d_De_twice_10 : decode b_De_twice 10 = .ok (.aload_n 0, 1) := by decide +kernel
theorem d_De_twice_11 : decode b_De_twice 11 = .ok (.getfield 15, 3) := by decide +kernel
theorem d_De_twice_14 : decode b_De_twice 14 = .ok (.if_icmp .lt 44, 3) := by decide +kernel
theorem d_De_twice_17 : decode b_De_twice 17 = .ok (.iconst 2, 1) := by decide +kernel
theorem d_De_twice_18 : decode b_De_twice 18 = .ok (.aload_n 0, 1) := by decide +kernel
theorem d_De_twice_19 : decode b_De_twice 19 = .ok (.getfield 9, 3) := by decide +kernel
theorem d_De_twice_22 : decode b_De_twice 22 = .ok (.iload_n 2, 1) := by decide +kernel
theorem d_De_twice_23 : decode b_De_twice 23 = .ok (.iaload, 1) := by decide +kernel
theorem d_De_twice_24 : decode b_De_twice 24 = .ok (.imul, 1) := by decide +kernel
theorem d_De_twice_25 : decode b_De_twice 25 = .ok (.iload_n 1, 1) := by decide +kernel
theorem d_De_twice_26 : decode b_De_twice 26 = .ok (.iadd, 1) := by decide +kernel
theorem d_De_twice_27 : decode b_De_twice 27 = .ok (.istore_n 3, 1) := by decide +kernel
theorem d_De_twice_28 : decode b_De_twice 28 = .ok (.iload_n 3, 1) := by decide +kernel
theorem d_De_twice_29 : decode b_De_twice 29 = .ok (.ldc 27, 2) := by decide +kernel
theorem d_De_twice_31 : decode b_De_twice 31 = .ok (.if_icmp .lt 7, 3) := by decide +kernel
theorem d_De_twice_34 : decode b_De_twice 34 = .ok (.iconst 1, 1) := by decide +kernel
theorem d_De_twice_35 : decode b_De_twice 35 = .ok (.goto 4, 3) := by decide +kernel
theorem d_De_twice_38 : decode b_De_twice 38 = .ok (.iconst 0, 1) := by decide +kernel
theorem d_De_twice_39 : decode b_De_twice 39 = .ok (.istore_n 1, 1) := by decide +kernel
theorem d_De_twice_40 : decode b_De_twice 40 = .ok (.aload_n 0, 1) := by decide +kernel
theorem d_De_twice_41 : decode b_De_twice 41 = .ok (.getfield 9, 3) := by decide +kernel
theorem d_De_twice_44 : decode b_De_twice 44 = .ok (.iload_n 2, 1) := by decide +kernel
theorem d_De_twice_45 : decode b_De_twice 45 = .ok (.iload_n 3, 1) := by decide +kernel
theorem d_De_twice_46 : decode b_De_twice 46 = .ok (.iload_n 1, 1) := by decide +kernel
theorem d_De_twice_47 : decode b_De_twice 47 = .ok (.ldc 27, 2) := by decide +kernel
theorem d_De_twice_49 : decode b_De_twice 49 = .ok (.imul, 1) := by decide +kernel
theorem d_De_twice_50 : decode b_De_twice 50 = .ok (.isub, 1) := by decide +kernel
theorem d_De_twice_51 : decode b_De_twice 51 = .ok (.iastore, 1) := by decide +kernel
theorem d_De_twice_52 : decode b_De_twice 52 = .ok (.iinc 2 (-1), 3) := by decide +kernel
theorem d_De_twice_55 : decode b_De_twice 55 = .ok (.goto (-46), 3) := by decide +kernel
theorem d_De_twice_58 : decode b_De_twice 58 = .ok (.iload_n 1, 1) := by decide +kernel
theorem d_De_twice_59 : decode b_De_twice 59 = .ok (.ifCond .le 23, 3) := by decide +kernel
theorem d_De_twice_62 : decode b_De_twice 62 = .ok (.aload_n 0, 1) := by decide +kernel
theorem d_De_twice_63 : decode b_De_twice 63 = .ok (.dup, 1) := by decide +kernel
theorem d_De_twice_64 : decode b_De_twice 64 = .ok (.getfield 15, 3) := by decide +kernel
theorem d_De_twice_67 : decode b_De_twice 67 = .ok (.iconst 1, 1) := by decide +kernel
theorem d_De_twice_68 : decode b_De_twice 68 = .ok (.isub, 1) := by decide +kernel
theorem d_De_twice_69 : decode b_De_twice 69 = .ok (.putfield 15, 3) := by decide +kernel
theorem d_De_twice_72 : decode b_De_twice 72 = .ok (.aload_n 0, 1) := by decide +kernel
theorem d_De_twice_73 : decode b_De_twice 73 = .ok (.getfield 9, 3) := by decide +kernel
theorem d_De_twice_76 : decode b_De_twice 76 = .ok (.aload_n 0, 1) := by decide +kernel
theorem d_De_twice_77 : decode b_De_twice 77 = .ok (.getfield 15, 3) := by decide +kernel
theorem d_De_twice_80 : decode b_De_twice 80 = .ok (.iconst 1, 1) := by decide +kernel
theorem d_De_twice_81 : decode b_De_twice 81 = .ok (.iastore, 1) := by decide +kernel
theorem d_De_twice_82 : decode b_De_twice 82 = .ok (.aload_n 0, 1) := by decide +kernel
theorem d_De_twice_83 : decode b_De_twice 83 = .ok (.getfield 19, 3) := by decide +kernel
theorem d_De_twice_86 : decode b_De_twice 86 = .ok (.aload_n 0, 1) := by decide +kernel
theorem d_De_twice_87 : decode b_De_twice 87 = .ok (.getfield 15, 3) := by decide +kernel
theorem d_De_twice_90 : decode b_De_twice 90 = .ok (.if_icmp .le 30, 3) := by decide +kernel
theorem d_De_twice_93 : decode b_De_twice 93 = .ok (.aload_n 0, 1) := by decide +kernel
theorem d_De_twice_94 : decode b_De_twice 94 = .ok (.getfield 9, 3) := by decide +kernel
theorem d_De_twice_97 : decode b_De_twice 97 = .ok (.aload_n 0, 1) := by decide +kernel
theorem d_De_twice_98 : decode b_De_twice 98 = .ok (.getfield 19, 3) := by decide +kernel
theorem d_De_twice_101 : decode b_De_twice 101 = .ok (.iconst 1, 1) := by decide +kernel
theorem d_De_twice_102 : decode b_De_twice 102 = .ok (.isub, 1) := by decide +kernel
theorem d_De_twice_103 : decode b_De_twice 103 = .ok (.iaload, 1) := by decide +kernel
theorem d_De_twice_104 : decode b_De_twice 104 = .ok (.ifCond .ne 16, 3) := by decide +kernel
theorem d_De_twice_107 : decode b_De_twice 107 = .ok (.aload_n 0, 1) := by decide +kernel
theorem d_De_twice_108 : decode b_De_twice 108 = .ok (.dup, 1) := by decide +kernel
theorem d_De_twice_109 : decode b_De_twice 109 = .ok (.getfield 19, 3) := by decide +kernel
theorem d_De_twice_112 : decode b_De_twice 112 = .ok (.iconst 1, 1) := by decide +kernel
theorem d_De_twice_113 : decode b_De_twice 113 = .ok (.isub, 1) := by decide +kernel
theorem d_De_twice_114 : decode b_De_twice 114 = .ok (.putfield 19, 3) := by decide +kernel
theorem d_De_twice_117 : decode b_De_twice 117 = .ok (.goto (-35), 3) := by decide +kernel
theorem d_De_twice_120 : decode b_De_twice 120 = .ok (.return_, 1) := by decide +kernel
theorem d_De_digit_0 : decode b_De_digit 0 = .ok (.iload_n 1, 1) := by decide +kernel
theorem d_De_digit_1 : decode b_De_digit 1 = .ok (.ifCond .lt 13, 3) := by decide +kernel
theorem d_De_digit_4 : decode b_De_digit 4 = .ok (.bipush 44, 2) := by decide +kernel
theorem d_De_digit_6 : decode b_De_digit 6 = .ok (.iload_n 1, 1) := by decide +kernel
theorem d_De_digit_7 : decode b_De_digit 7 = .ok (.bipush 9, 2) := by decide +kernel
theorem d_De_digit_9 : decode b_De_digit 9 = .ok (.idiv, 1) := by decide +kernel
theorem d_De_digit_10 : decode b_De_digit 10 = .ok (.isub, 1) := by decide +kernel
theorem d_De_digit_11 : decode b_De_digit 11 = .ok (.goto 13, 3) := by decide +kernel
theorem d_De_digit_14 : decode b_De_digit 14 = .ok (.bipush 45, 2) := by decide +kernel
theorem d_De_digit_16 : decode b_De_digit 16 = .ok (.iload_n 1, 1) := by decide +kernel
theorem d_De_digit_17 : decode b_De_digit 17 = .ok (.ineg, 1) := by decide +kernel
theorem d_De_digit_18 : decode b_De_digit 18 = .ok (.iconst 1, 1) := by decide +kernel
theorem d_De_digit_19 : decode b_De_digit 19 = .ok (.isub, 1) := by decide +kernel
theorem d_De_digit_20 : decode b_De_digit 20 = .ok (.bipush 9, 2) := by decide +kernel
theorem d_De_digit_22 : decode b_De_digit 22 = .ok (.idiv, 1) := by decide +kernel
theorem d_De_digit_23 : decode b_De_digit 23 = .ok (.iadd, 1) := by decide +kernel
theorem d_De_digit_24 : decode b_De_digit 24 = .ok (.istore_n 2, 1) := by decide +kernel
theorem d_De_digit_25 : decode b_De_digit 25 = .ok (.iload_n 1, 1) := by decide +kernel
theorem d_De_digit_26 : decode b_De_digit 26 = .ok (.ifCond .lt 10, 3) := by decide +kernel
theorem d_De_digit_29 : decode b_De_digit 29 = .ok (.iload_n 1, 1) := by decide +kernel
theorem d_De_digit_30 : decode b_De_digit 30 = .ok (.bipush 9, 2) := by decide +kernel
theorem d_De_digit_32 : decode b_De_digit 32 = .ok (.irem, 1) := by decide +kernel
theorem d_De_digit_33 : decode b_De_digit 33 = .ok (.goto 13, 3) := by decide +kernel
theorem d_De_digit_36 : decode b_De_digit 36 = .ok (.bipush 8, 2) := by decide +kernel
theorem d_De_digit_38 : decode b_De_digit 38 = .ok (.iload_n 1, 1) := by decide +kernel
theorem d_De_digit_39 : decode b_De_digit 39 = .ok (.ineg, 1) := by decide +kernel
theorem d_De_digit_40 : decode b_De_digit 40 = .ok (.iconst 1, 1) := by decide +kernel
theorem d_De_digit_41 : decode b_De_digit 41 = .ok (.isub, 1) := by decide +kernel
theorem d_De_digit_42 : decode b_De_digit 42 = .ok (.bipush 9, 2) := by decide +kernel
theorem d_De_digit_44 : decode b_De_digit 44 = .ok (.irem, 1) := by decide +kernel
theorem d_De_digit_45 : decode b_De_digit 45 = .ok (.isub, 1) := by decide +kernel
theorem d_De_digit_46 : decode b_De_digit 46 = .ok (.istore_n 3, 1) := by decide +kernel
theorem d_De_digit_47 : decode b_De_digit 47 = .ok (.iload_n 2, 1) := by decide +kernel
theorem d_De_digit_48 : decode b_De_digit 48 = .ok (.aload_n 0, 1) := by decide +kernel
theorem d_De_digit_49 : decode b_De_digit 49 = .ok (.getfield 15, 3) := by decide +kernel
theorem d_De_digit_52 : decode b_De_digit 52 = .ok (.if_icmp .lt 11, 3) := by decide +kernel
theorem d_De_digit_55 : decode b_De_digit 55 = .ok (.iload_n 2, 1) := by decide +kernel
theorem d_De_digit_56 : decode b_De_digit 56 = .ok (.aload_n 0, 1) := by decide +kernel
theorem d_De_digit_57 : decode b_De_digit 57 = .ok (.getfield 19, 3) := by decide +kernel
theorem d_De_digit_60 : decode b_De_digit 60 = .ok (.if_icmp .lt 5, 3) := by decide +kernel
theorem d_De_digit_63 : decode b_De_digit 63 = .ok (.iconst 0, 1) := by decide +kernel
theorem d_De_digit_64 : decode b_De_digit 64 = .ok (.ireturn, 1) := by decide +kernel
theorem d_De_digit_65 : decode b_De_digit 65 = .ok (.aload_n 0, 1) := by decide +kernel
theorem d_De_digit_66 : decode b_De_digit 66 = .ok (.getfield 9, 3) := by decide +kernel
theorem d_De_digit_69 : decode b_De_digit 69 = .ok (.iload_n 2, 1) := by decide +kernel
theorem d_De_digit_70 : decode b_De_digit 70 = .ok (.iaload, 1) := by decide +kernel
theorem d_De_digit_71 : decode b_De_digit 71 = .ok (.istore 4, 2) := by decide +kernel
theorem d_De_digit_73 : decode b_De_digit 73 = .ok (.iconst 0, 1) := by decide +kernel
theorem d_De_digit_74 : decode b_De_digit 74 = .ok (.istore 5, 2) := by decide +kernel
theorem d_De_digit_76 : decode b_De_digit 76 = .ok (.iload 5, 2) := by decide +kernel
theorem d_De_digit_78 : decode b_De_digit 78 = .ok (.iload_n 3, 1) := by decide +kernel
theorem d_De_digit_79 : decode b_De_digit 79 = .ok (.if_icmp .ge 16, 3) := by decide +kernel
theorem d_De_digit_82 : decode b_De_digit 82 = .ok (.iload 4, 2) := by decide +kernel
theorem d_De_digit_84 : decode b_De_digit 84 = .ok (.bipush 10, 2) := by decide +kernel
theorem d_De_digit_86 : decode b_De_digit 86 = .ok (.idiv, 1) := by decide +kernel
theorem d_De_digit_87 : decode b_De_digit 87 = .ok (.istore 4, 2) := by decide +kernel
theorem d_De_digit_89 : decode b_De_digit 89 = .ok (.iinc 5 1, 3) := by decide +kernel
theorem d_De_digit_92 : decode b_De_digit 92 = .ok (.goto (-16), 3) := by decide +kernel
theorem d_De_digit_95 : decode b_De_digit 95 = .ok (.iload 4, 2) := by decide +kernel
theorem d_De_digit_97 : decode b_De_digit 97 = .ok (.bipush 10, 2) := by decide +kernel
theorem d_De_digit_99 : decode b_De_digit 99 = .ok (.irem, 1) := by decide +kernel
theorem d_De_digit_100 : decode b_De_digit 100 = .ok (.ireturn, 1) := by decide +kernel
theorem d_De_isBelow_0 : decode b_De_isBelow 0 = .ok (.iload_n 1, 1) := by decide +kernel
theorem d_De_isBelow_1 : decode b_De_isBelow 1 = .ok (.iconst 1, 1) := by decide +kernel
theorem d_De_isBelow_2 : decode b_De_isBelow 2 = .ok (.isub, 1) := by decide +kernel
theorem d_De_isBelow_3 : decode b_De_isBelow 3 = .ok (.istore_n 2, 1) := by decide +kernel
theorem d_De_isBelow_4 : decode b_De_isBelow 4 = .ok (.iload_n 2, 1) := by decide +kernel
theorem d_De_isBelow_5 : decode b_De_isBelow 5 = .ok (.aload_n 0, 1) := by decide +kernel
theorem d_De_isBelow_6 : decode b_De_isBelow 6 = .ok (.invokevirtual 51, 3) := by decide +kernel
theorem d_De_isBelow_9 : decode b_De_isBelow 9 = .ok (.if_icmp .lt 19, 3) := by decide +kernel
theorem d_De_isBelow_12 : decode b_De_isBelow 12 = .ok (.aload_n 0, 1) := by decide +kernel
theorem d_De_isBelow_13 : decode b_De_isBelow 13 = .ok (.iload_n 2, 1) := by decide +kernel
theorem d_De_isBelow_14 : decode b_De_isBelow 14 = .ok (.invokevirtual 41, 3) := by decide +kernel
theorem d_De_isBelow_17 : decode b_De_isBelow 17 = .ok (.ifCond .eq 5, 3) := by decide +kernel
theorem d_De_isBelow_20 : decode b_De_isBelow 20 = .ok (.iconst 1, 1) := by decide +kernel
theorem d_De_isBelow_21 : decode b_De_isBelow 21 = .ok (.ireturn, 1) := by decide +kernel
theorem d_De_isBelow_22 : decode b_De_isBelow 22 = .ok (.iinc 2 (-1), 3) := by decide +kernel
theorem d_De_isBelow_25 : decode b_De_isBelow 25 = .ok (.goto (-21), 3) := by decide +kernel
theorem d_De_isBelow_28 : decode b_De_isBelow 28 = .ok (.iconst 0, 1) := by decide +kernel
theorem d_De_isBelow_29 : decode b_De_isBelow 29 = .ok (.ireturn, 1) := by decide +kernel
theorem d_De_low_0 : decode b_De_low 0 = .ok (.bipush 9, 2) := by decide +kernel
theorem d_De_low_2 : decode b_De_low 2 = .ok (.bipush 45, 2) := by decide +kernel
theorem d_De_low_4 : decode b_De_low 4 = .ok (.aload_n 0, 1) := by decide +kernel
theorem d_De_low_5 : decode b_De_low 5 = .ok (.getfield 19, 3) := by decide +kernel
theorem d_De_low_8 : decode b_De_low 8 = .ok (.bipush 45, 2) := by decide +kernel
theorem d_De_low_10 : decode b_De_low 10 = .ok (.invokestatic 45, 3) := by decide +kernel
theorem d_De_low_13 : decode b_De_low 13 = .ok (.isub, 1) := by decide +kernel
theorem d_De_low_14 : decode b_De_low 14 = .ok (.imul, 1) := by decide +kernel
theorem d_De_low_15 : decode b_De_low 15 = .ok (.ireturn, 1) := by decide +kernel
end
section
theorem d_Ro_init_0 : decode b_Ro_init 0 = .ok (.aload_n 0, 1) := by decide +kernel
theorem d_Ro_init_1 : decode b_Ro_init 1 = .ok (.invokespecial 3, 3) := by decide +kernel
theorem d_Ro_init_4 : decode b_Ro_init 4 = .ok (.aload_n 0, 1) := by decide +kernel
theorem d_Ro_init_5 : decode b_Ro_init 5 = .ok (.sipush 4200, 3) := by decide +kernel
theorem d_Ro_init_8 : decode b_Ro_init 8 = .ok (.newarray .byte, 2) := by decide +kernel
theorem d_Ro_init_10 : decode b_Ro_init 10 = .ok (.putfield 9, 3) := by decide +kernel
theorem d_Ro_init_13 : decode b_Ro_init 13 = .ok (.return_, 1) := by decide +kernel
theorem d_Ro_set_0 : decode b_Ro_set 0 = .ok (.lload_n 1, 1) := by decide +kernel
theorem d_Ro_set_1 : decode b_Ro_set 1 = .ok (.lstore_n 3, 1) := by decide +kernel
theorem d_Ro_set_2 : decode b_Ro_set 2 = .ok (.aload_n 0, 1) := by decide +kernel
theorem d_Ro_set_3 : decode b_Ro_set 3 = .ok (.iconst 0, 1) := by decide +kernel
theorem d_Ro_set_4 : decode b_Ro_set 4 = .ok (.putfield 15, 3) := by decide +kernel
theorem d_Ro_set_7 : decode b_Ro_set 7 = .ok (.aload_n 0, 1) := by decide +kernel
theorem d_Ro_set_8 : decode b_Ro_set 8 = .ok (.iconst 0, 1) := by decide +kernel
theorem d_Ro_set_9 : decode b_Ro_set 9 = .ok (.putfield 19, 3) := by decide +kernel
theorem d_Ro_set_12 : decode b_Ro_set 12 = .ok (.lload_n 3, 1) := by decide +kernel
theorem d_Ro_set_13 : decode b_Ro_set 13 = .ok (.lconst 0, 1) := by decide +kernel
theorem d_Ro_set_14 : decode b_Ro_set 14 = .ok (.lcmp, 1) := by decide +kernel
theorem d_Ro_set_15 : decode b_Ro_set 15 = .ok (.ifCond .eq 71, 3) := by decide +kernel
theorem d_Ro_set_18 : decode b_Ro_set 18 = .ok (.lload_n 3, 1) := by decide +kernel
theorem d_Ro_set_19 : decode b_Ro_set 19 = .ok (.ldc2_w 22, 3) := by decide +kernel
theorem d_Ro_set_22 : decode b_Ro_set 22 = .ok (.invokestatic 24, 3) := by decide +kernel
theorem d_Ro_set_25 : decode b_Ro_set 25 = .ok (.lstore 5, 2) := by decide +kernel
theorem d_Ro_set_27 : decode b_Ro_set 27 = .ok (.aload_n 0, 1) := by decide +kernel
theorem d_Ro_set_28 : decode b_Ro_set 28 = .ok (.getfield 9, 3) := by decide +kernel
theorem d_Ro_set_31 : decode b_Ro_set 31 = .ok (.iconst 0, 1) := by decide +kernel
theorem d_Ro_set_32 : decode b_Ro_set 32 = .ok (.aload_n 0, 1) := by decide +kernel
theorem d_Ro_set_33 : decode b_Ro_set 33 = .ok (.getfield 9, 3) := by decide +kernel
theorem d_Ro_set_36 : decode b_Ro_set 36 = .ok (.iconst 1, 1) := by decide +kernel
theorem d_Ro_set_37 : decode b_Ro_set 37 = .ok (.aload_n 0, 1) := by decide +kernel
theorem d_Ro_set_38 : decode b_Ro_set 38 = .ok (.getfield 15, 3) := by decide +kernel
theorem d_Ro_set_41 : decode b_Ro_set 41 = .ok (.invokestatic 30, 3) := by decide +kernel
theorem d_Ro_set_44 : decode b_Ro_set 44 = .ok (.aload_n 0, 1) := by decide +kernel
theorem d_Ro_set_45 : decode b_Ro_set 45 = .ok (.getfield 9, 3) := by decide +kernel
theorem d_Ro_set_48 : decode b_Ro_set 48 = .ok (.iconst 0, 1) := by decide +kernel
theorem d_Ro_set_49 : decode b_Ro_set 49 = .ok (.lload_n 3, 1) := by decide +kernel
theorem d_Ro_set_50 : decode b_Ro_set 50 = .ok (.ldc2_w 22, 3) := by decide +kernel
theorem d_Ro_set_53 : decode b_Ro_set 53 = .ok (.lload 5, 2) := by decide +kernel
theorem d_Ro_set_55 : decode b_Ro_set 55 = .ok (.lmul, 1) := by decide +kernel
theorem d_Ro_set_56 : decode b_Ro_set 56 = .ok (.lsub, 1) := by decide +kernel
theorem d_Ro_set_57 : decode b_Ro_set 57 = .ok (.l2i, 1) := by decide +kernel
theorem d_Ro_set_58 : decode b_Ro_set 58 = .ok (.i2b, 1) := by decide +kernel
theorem d_Ro_set_59 : decode b_Ro_set 59 = .ok (.bastore, 1) := by decide +kernel
theorem d_Ro_set_60 : decode b_Ro_set 60 = .ok (.aload_n 0, 1) := by decide +kernel
theorem d_Ro_set_61 : decode b_Ro_set 61 = .ok (.dup, 1) := by decide +kernel
theorem d_Ro_set_62 : decode b_Ro_set 62 = .ok (.getfield 15, 3) := by decide +kernel
theorem d_Ro_set_65 : decode b_Ro_set 65 = .ok (.iconst 1, 1) := by decide +kernel
theorem d_Ro_set_66 : decode b_Ro_set 66 = .ok (.iadd, 1) := by decide +kernel
theorem d_Ro_set_67 : decode b_Ro_set 67 = .ok (.putfield 15, 3) := by decide +kernel
theorem d_Ro_set_70 : decode b_Ro_set 70 = .ok (.aload_n 0, 1) := by decide +kernel
theorem d_Ro_set_71 : decode b_Ro_set 71 = .ok (.dup, 1) := by decide +kernel
theorem d_Ro_set_72 : decode b_Ro_set 72 = .ok (.getfield 19, 3) := by decide +kernel
theorem d_Ro_set_75 : decode b_Ro_set 75 = .ok (.iconst 1, 1) := by decide +kernel
theorem d_Ro_set_76 : decode b_Ro_set 76 = .ok (.iadd, 1) := by decide +kernel
theorem d_Ro_set_77 : decode b_Ro_set 77 = .ok (.putfield 19, 3) := by decide +kernel
theorem d_Ro_set_80 : decode b_Ro_set 80 = .ok (.lload 5, 2) := by decide +kernel
theorem d_Ro_set_82 : decode b_Ro_set 82 = .ok (.lstore_n 3, 1) := by decide +kernel
theorem d_Ro_set_83 : decode b_Ro_set 83 = .ok (.goto (-71), 3) := by decide +kernel
theorem d_Ro_set_86 : decode b_Ro_set 86 = .ok (.aload_n 0, 1) := by decide +kernel
theorem d_Ro_set_87 : decode b_Ro_set 87 = .ok (.invokevirtual 36, 3) := by decide +kernel
theorem d_Ro_set_90 : decode b_Ro_set 90 = .ok (.return_, 1) := by decide +kernel
theorem d_Ro_trim_0 : decode b_Ro_trim 0 = .ok (.aload_n 0, 1) := by decide +kernel
theorem d_Ro_trim_1 : decode b_Ro_trim 1 = .ok (.getfield 15, 3) := by decide +kernel
theorem d_Ro_trim_4 : decode b_Ro_trim 4 = .ok (.ifCond .le 30, 3) := by decide +kernel
theorem d_Ro_trim_7 : decode b_Ro_trim 7 = .ok (.aload_n 0, 1) := by decide +kernel
theorem d_Ro_trim_8 : decode b_Ro_trim 8 = .ok (.getfield 9, 3) := by decide +kernel
theorem d_Ro_trim_11 : decode b_Ro_trim 11 = .ok (.aload_n 0, 1) := by decide +kernel
theorem d_Ro_trim_12 : decode b_Ro_trim 12 = .ok (.getfield 15, 3) := by decide +kernel
theorem d_Ro_trim_15 : decode b_Ro_trim 15 = .ok (.iconst 1, 1) := by decide +kernel
theorem d_Ro_trim_16 : decode b_Ro_trim 16 = .ok (.isub, 1) := by decide +kernel
theorem d_Ro_trim_17 : decode b_Ro_trim 17 = .ok (.baload, 1) := by decide +kernel
theorem d_Ro_trim_18 : decode b_Ro_trim 18 = .ok (.ifCond .ne 16, 3) := by decide +kernel
theorem d_Ro_trim_21 : decode b_Ro_trim 21 = .ok (.aload_n 0, 1) := by decide +kernel
theorem d_Ro_trim_22 : decode b_Ro_trim 22 = .ok (.dup, 1) := by decide +kernel
theorem d_Ro_trim_23 : decode b_Ro_trim 23 = .ok (.getfield 15, 3) := by decide +kernel
theorem d_Ro_trim_26 : decode b_Ro_trim 26 = .ok (.iconst 1, 1) := by decide +kernel
theorem d_Ro_trim_27 : decode b_Ro_trim 27 = .ok (.isub, 1) := by decide +kernel
theorem d_Ro_trim_28 : decode b_Ro_trim 28 = .ok (.putfield 15, 3) := by decide +kernel
theorem d_Ro_trim_31 : decode b_Ro_trim 31 = .ok (.goto (-31), 3) := by decide +kernel
theorem d_Ro_trim_34 : decode b_Ro_trim 34 = .ok (.iconst 0, 1) := by decide +kernel
theorem d_Ro_trim_35 : decode b_Ro_trim 35 = .ok (.istore_n 1, 1) := by decide +kernel
theorem d_Ro_trim_36 : decode b_Ro_trim 36 = .ok (.iload_n 1, 1) := by decide +kernel
theorem d_Ro_trim_37 : decode b_Ro_trim 37 = .ok (.aload_n 0, 1) := by decide +kernel
theorem d_Ro_trim_38 : decode b_Ro_trim 38 = .ok (.getfield 15, 3) := by decide +kernel
theorem d_Ro_trim_41 : decode b_Ro_trim 41 = .ok (.if_icmp .ge 18, 3) := by decide +kernel
theorem d_Ro_trim_44 : decode b_Ro_trim 44 = .ok (.aload_n 0, 1) := by decide +kernel
theorem d_Ro_trim_45 : decode b_Ro_trim 45 = .ok (.getfield 9, 3) := by decide +kernel
theorem d_Ro_trim_48 : decode b_Ro_trim 48 = .ok (.iload_n 1, 1) := by decide +kernel
theorem d_Ro_trim_49 : decode b_Ro_trim 49 = .ok (.baload, 1) := by decide +kernel
theorem d_Ro_trim_50 : decode b_Ro_trim 50 = .ok (.ifCond .ne 9, 3) := by decide +kernel
theorem d_Ro_trim_53 : decode b_Ro_trim 53 = .ok (.iinc 1 1, 3) := by decide +kernel
theorem d_Ro_trim_56 : decode b_Ro_trim 56 = .ok (.goto (-20), 3) := by decide +kernel
theorem d_Ro_trim_59 : decode b_Ro_trim 59 = .ok (.iload_n 1, 1) := by decide +kernel
theorem d_Ro_trim_60 : decode b_Ro_trim 60 = .ok (.ifCond .le 42, 3) := by decide +kernel
theorem d_Ro_trim_63 : decode b_Ro_trim 63 = .ok (.aload_n 0, 1) := by decide +kernel
theorem d_Ro_trim_64 : decode b_Ro_trim 64 = .ok (.getfield 9, 3) := by decide +kernel
theorem d_Ro_trim_67 : decode b_Ro_trim 67 = .ok (.iload_n 1, 1) := by decide +kernel
theorem d_Ro_trim_68 : decode b_Ro_trim 68 = .ok (.aload_n 0, 1) := by decide +kernel
theorem d_Ro_trim_69 : decode b_Ro_trim 69 = .ok (.getfield 9, 3) := by decide +kernel
theorem d_Ro_trim_72 : decode b_Ro_trim 72 = .ok (.iconst 0, 1) := by decide +kernel
theorem d_Ro_trim_73 : decode b_Ro_trim 73 = .ok (.aload_n 0, 1) := by decide +kernel
theorem d_Ro_trim_74 : decode b_Ro_trim 74 = .ok (.getfield 15, 3) := by decide +kernel
theorem d_Ro_trim_77 : decode b_Ro_trim 77 = .ok (.iload_n 1, 1) := by decide +kernel
theorem d_Ro_trim_78 : decode b_Ro_trim 78 = .ok (.isub, 1) := by decide +kernel
theorem d_Ro_trim_79 : decode b_Ro_trim 79 = .ok (.invokestatic 30, 3) := by decide +kernel
theorem d_Ro_trim_82 : decode b_Ro_trim 82 = .ok (.aload_n 0, 1) := by decide +kernel
theorem d_Ro_trim_83 : decode b_Ro_trim 83 = .ok (.dup, 1) := by decide +kernel
theorem d_Ro_trim_84 : decode b_Ro_trim 84 = .ok (.getfield 15, 3) := by decide +kernel
theorem d_Ro_trim_87 : decode b_Ro_trim 87 = .ok (.iload_n 1, 1) := by decide +kernel
theorem d_Ro_trim_88 : decode b_Ro_trim 88 = .ok (.isub, 1) := by decide +kernel
theorem d_Ro_trim_89 : decode b_Ro_trim 89 = .ok (.putfield 15, 3) := by decide +kernel
theorem d_Ro_trim_92 : decode b_Ro_trim 92 = .ok (.aload_n 0, 1) := by decide +kernel
theorem d_Ro_trim_93 : decode b_Ro_trim 93 = .ok (.dup, 1) := by decide +kernel
theorem d_Ro_trim_94 : decode b_Ro_trim 94 = .ok (.getfield 19, 3) := by decide +kernel
theorem d_Ro_trim_97 : decode b_Ro_trim 97 = .ok (.iload_n 1, 1) := by decide +kernel
theorem d_Ro_trim_98 : decode b_Ro_trim 98 = .ok (.isub, 1) := by decide +kernel
theorem d_Ro_trim_99 : decode b_Ro_trim 99 = .ok (.putfield 19, 3) := by decide +kernel
theorem d_Ro_trim_102 : decode b_Ro_trim 102 = .ok (.aload_n 0, 1) := by decide +kernel
theorem d_Ro_trim_103 : decode b_Ro_trim 103 = .ok (.getfield 15, 3) := by decide +kernel
theorem d_Ro_trim_106 : decode b_Ro_trim 106 = .ok (.ifCond .ne 8, 3) := by decide +kernel
theorem d_Ro_trim_109 : decode b_Ro_trim 109 = .ok (.aload_n 0, 1) := by decide +kernel
theorem d_Ro_trim_110 : decode b_Ro_trim 110 = .ok (.iconst 0, 1) := by decide +kernel
theorem d_Ro_trim_111 : decode b_Ro_trim 111 = .ok (.putfield 19, 3) := by decide +kernel
theorem d_Ro_trim_114 : decode b_Ro_trim 114 = .ok (.return_, 1) := by decide +kernel
theorem d_Ro_shift_0 : decode b_Ro_shift 0 = .ok (.aload_n 0, 1) := by decide +kernel
theorem d_Ro_shift_1 : decode b_Ro_shift 1 = .ok (.getfield 15, 3) := by decide +kernel
theorem d_Ro_shift_4 : decode b_Ro_shift 4 = .ok (.ifCond .ne 4, 3) := by decide +kernel
theorem d_Ro_shift_7 : decode b_Ro_shift 7 = .ok (.return_, 1) := by decide +kernel
theorem d_Ro_shift_8 : decode b_Ro_shift 8 = .ok (.iconst 0, 1) := by decide +kernel
theorem d_Ro_shift_9 : decode b_Ro_shift 9 = .ok (.istore_n 2, 1) := by decide +kernel
theorem d_Ro_shift_10 : decode b_Ro_shift 10 = .ok (.iload_n 2, 1) := by decide +kernel
theorem d_Ro_shift_11 : decode b_Ro_shift 11 = .ok (.iload_n 1, 1) := by decide +kernel
theorem d_Ro_shift_12 : decode b_Ro_shift 12 = .ok (.if_icmp .ge 14, 3) := by decide +kernel
theorem d_Ro_shift_15 : decode b_Ro_shift 15 = .ok (.aload_n 0, 1) := by decide +kernel
theorem d_Ro_shift_16 : decode b_Ro_shift 16 = .ok (.iconst 2, 1) := by decide +kernel
theorem d_Ro_shift_17 : decode b_Ro_shift 17 = .ok (.invokevirtual 39, 3) := by decide +kernel
theorem d_Ro_shift_20 : decode b_Ro_shift 20 = .ok (.iinc 2 1, 3) := by decide +kernel
theorem d_Ro_shift_23 : decode b_Ro_shift 23 = .ok (.goto (-13), 3) := by decide +kernel
theorem d_Ro_shift_26 : decode b_Ro_shift 26 = .ok (.iconst 0, 1) := by decide +kernel
theorem d_Ro_shift_27 : decode b_Ro_shift 27 = .ok (.istore_n 2, 1) := by decide +kernel
theorem d_Ro_shift_28 : decode b_Ro_shift 28 = .ok (.iload_n 2, 1) := by decide +kernel
theorem d_Ro_shift_29 : decode b_Ro_shift 29 = .ok (.iload_n 1, 1) := by decide +kernel
theorem d_Ro_shift_30 : decode b_Ro_shift 30 = .ok (.if_icmp .le 24, 3) := by decide +kernel
theorem d_Ro_shift_33 : decode b_Ro_shift 33 = .ok (.aload_n 0, 1) := by decide +kernel
theorem d_Ro_shift_34 : decode b_Ro_shift 34 = .ok (.iconst 5, 1) := by decide +kernel
theorem d_Ro_shift_35 : decode b_Ro_shift 35 = .ok (.invokevirtual 39, 3) := by decide +kernel
theorem d_Ro_shift_38 : decode b_Ro_shift 38 = .ok (.aload_n 0, 1) := by decide +kernel
theorem d_Ro_shift_39 : decode b_Ro_shift 39 = .ok (.dup, 1) := by decide +kernel
theorem d_Ro_shift_40 : decode b_Ro_shift 40 = .ok (.getfield 19, 3) := by decide +kernel
theorem d_Ro_shift_43 : decode b_Ro_shift 43 = .ok (.iconst 1, 1) := by decide +kernel
theorem d_Ro_shift_44 : decode b_Ro_shift 44 = .ok (.isub, 1) := by decide +kernel
theorem d_Ro_shift_45 : decode b_Ro_shift 45 = .ok (.putfield 19, 3) := by decide +kernel
theorem d_Ro_shift_48 : decode b_Ro_shift 48 = .ok (.iinc 2 (-1), 3) := by decide +kernel
theorem d_Ro_shift_51 : decode b_Ro_shift 51 = .ok (.goto (-23), 3) := by decide +kernel
theorem d_Ro_shift_54 : decode b_Ro_shift 54 = .ok (.return_, 1) := by decide +kernel
theorem d_Ro_times_0 : decode b_Ro_times 0 = .ok (.lconst 0, 1) := by decide +kernel
theorem d_Ro_times_1 : decode b_Ro_times 1 = .ok (.lstore_n 2, 1) := by decide +kernel
theorem d_Ro_times_2 : decode b_Ro_times 2 = .ok (.aload_n 0, 1) := by decide +kernel
theorem d_Ro_times_3 : decode b_Ro_times 3 = .ok (.getfield 15, 3) := by decide +kernel
theorem d_Ro_times_6 : decode b_Ro_times 6 = .ok (.iconst 1, 1) := by decide +kernel
theorem d_Ro_times_7 : decode b_Ro_times 7 = .ok (.isub, 1) := by decide +kernel
theorem d_Ro_times_8 : decode b_Ro_times 8 = .ok (.istore 4, 2) := by decide +kernel
theorem d_Ro_times_10 : decode b_Ro_times 10 = .ok (.iload 4, 2) := by decide +kernel
theorem d_Ro_times_12 : decode b_Ro_times 12 = .ok (.ifCond .lt 43, 3) := by decide +kernel
theorem d_Ro_times_15 : decode b_Ro_times 15 = .ok (.lload_n 2, 1) := by decide +kernel
theorem d_Ro_times_16 : decode b_Ro_times 16 = .ok (.iload_n 1, 1) := by decide +kernel
theorem d_Ro_times_17 : decode b_Ro_times 17 = .ok (.i2l, 1) := by decide +kernel
theorem d_Ro_times_18 : decode b_Ro_times 18 = .ok (.aload_n 0, 1) := by decide +kernel
theorem d_Ro_times_19 : decode b_Ro_times 19 = .ok (.getfield 9, 3) := by decide +kernel
theorem d_Ro_times_22 : decode b_Ro_times 22 = .ok (.iload 4, 2) := by decide +kernel
theorem d_Ro_times_24 : decode b_Ro_times 24 = .ok (.baload, 1) := by decide +kernel
theorem d_Ro_times_25 : decode b_Ro_times 25 = .ok (.i2l, 1) := by decide +kernel
theorem d_Ro_times_26 : decode b_Ro_times 26 = .ok (.lmul, 1) := by decide +kernel
theorem d_Ro_times_27 : decode b_Ro_times 27 = .ok (.ladd, 1) := by decide +kernel
theorem d_Ro_times_28 : decode b_Ro_times 28 = .ok (.lstore_n 2, 1) := by decide +kernel
theorem d_Ro_times_29 : decode b_Ro_times 29 = .ok (.aload_n 0, 1) := by decide +kernel
theorem d_Ro_times_30 : decode b_Ro_times 30 = .ok (.getfield 9, 3) := by decide +kernel
theorem d_Ro_times_33 : decode b_Ro_times 33 = .ok (.iload 4, 2) := by decide +kernel
theorem d_Ro_times_35 : decode b_Ro_times 35 = .ok (.lload_n 2, 1) := by decide +kernel
theorem d_Ro_times_36 : decode b_Ro_times 36 = .ok (.ldc2_w 22, 3) := by decide +kernel
theorem d_Ro_times_39 : decode b_Ro_times 39 = .ok (.lrem, 1) := by decide +kernel
theorem d_Ro_times_40 : decode b_Ro_times 40 = .ok (.l2i, 1) := by decide +kernel
theorem d_Ro_times_41 : decode b_Ro_times 41 = .ok (.i2b, 1) := by decide +kernel
theorem d_Ro_times_42 : decode b_Ro_times 42 = .ok (.bastore, 1) := by decide +kernel
theorem d_Ro_times_43 : decode b_Ro_times 43 = .ok (.lload_n 2, 1) := by decide +kernel
theorem d_Ro_times_44 : decode b_Ro_times 44 = .ok (.ldc2_w 22, 3) := by decide +kernel
theorem d_Ro_times_47 : decode b_Ro_times 47 = .ok (.ldiv, 1) := by decide +kernel
theorem d_Ro_times_48 : decode b_Ro_times 48 = .ok (.lstore_n 2, 1) := by decide +kernel
theorem d_Ro_times_49 : decode b_Ro_times 49 = .ok (.iinc 4 (-1), 3) := by decide +kernel
theorem d_Ro_times_52 : decode b_Ro_times 52 = .ok (.goto (-42), 3) := by decide +kernel
theorem d_Ro_times_55 : decode b_Ro_times 55 = .ok (.iconst 0, 1) := by decide +kernel
theorem d_Ro_times_56 : decode b_Ro_times 56 = .ok (.istore 4, 2) := by decide +kernel
theorem d_Ro_times_58 : decode b_Ro_times 58 = .ok (.lload_n 2, 1) := by decide +kernel
theorem d_Ro_times_59 : decode b_Ro_times 59 = .ok (.lstore 5, 2) := by decide +kernel
theorem d_Ro_times_61 : decode b_Ro_times 61 = .ok (.lload 5, 2) := by decide +kernel
theorem d_Ro_times_63 : decode b_Ro_times 63 = .ok (.lconst 0, 1) := by decide +kernel
theorem d_Ro_times_64 : decode b_Ro_times 64 = .ok (.lcmp, 1) := by decide +kernel
theorem d_Ro_times_65 : decode b_Ro_times 65 = .ok (.ifCond .le 17, 3) := by decide +kernel
theorem d_Ro_times_68 : decode b_Ro_times 68 = .ok (.iinc 4 1, 3) := by decide +kernel
theorem d_Ro_times_71 : decode b_Ro_times 71 = .ok (.lload 5, 2) := by decide +kernel
theorem d_Ro_times_73 : decode b_Ro_times 73 = .ok (.ldc2_w 22, 3) := by decide +kernel
theorem d_Ro_times_76 : decode b_Ro_times 76 = .ok (.ldiv, 1) := by decide +kernel
theorem d_Ro_times_77 : decode b_Ro_times 77 = .ok (.lstore 5, 2) := by decide +kernel
theorem d_Ro_times_79 : decode b_Ro_times 79 = .ok (.goto (-18), 3) := by decide +kernel
theorem d_Ro_times_82 : decode b_Ro_times 82 = .ok (.aload_n 0, 1) := by decide +kernel
theorem d_Ro_times_83 : decode b_Ro_times 83 = .ok (.getfield 9, 3) := by decide +kernel
theorem d_Ro_times_86 : decode b_Ro_times 86 = .ok (.iconst 0, 1) := by decide +kernel
theorem d_Ro_times_87 : decode b_Ro_times 87 = .ok (.aload_n 0, 1) := by decide +kernel
theorem d_Ro_times_88 : decode b_Ro_times 88 = .ok (.getfield 9, 3) := by decide +kernel
theorem d_Ro_times_91 : decode b_Ro_times 91 = .ok (.iload 4, 2) := by decide +kernel
theorem d_Ro_times_93 : decode b_Ro_times 93 = .ok (.aload_n 0, 1) := by decide +kernel
theorem d_Ro_times_94 : decode b_Ro_times 94 = .ok (.getfield 15, 3) := by decide +kernel
theorem d_Ro_times_97 : decode b_Ro_times 97 = .ok (.invokestatic 30, 3) := by decide +kernel
theorem d_Ro_times_100 : decode b_Ro_times 100 = .ok (.aload_n 0, 1) := by decide +kernel
theorem d_Ro_times_101 : decode b_Ro_times 101 = .ok (.dup, 1) := by decide +kernel
theorem d_Ro_times_102 : decode b_Ro_times 102 = .ok (.getfield 15, 3) := by decide +kernel
theorem d_Ro_times_105 : decode b_Ro_times 105 = .ok (.iload 4, 2) := by decide +kernel
theorem d_Ro_times_107 : decode b_Ro_times 107 = .ok (.iadd, 1) := by decide +kernel
theorem d_Ro_times_108 : decode b_Ro_times 108 = .ok (.putfield 15, 3) := by decide +kernel
theorem d_Ro_times_111 : decode b_Ro_times 111 = .ok (.aload_n 0, 1) := by decide +kernel
theorem d_Ro_times_112 : decode b_Ro_times 112 = .ok (.dup, 1) := by decide +kernel
theorem d_Ro_times_113 : decode b_Ro_times 113 = .ok (.getfield 19, 3) := by decide +kernel
theorem d_Ro_times_116 : decode b_Ro_times 116 = .ok (.iload 4, 2) := by decide +kernel
theorem d_Ro_times_118 : decode b_Ro_times 118 = .ok (.iadd, 1) := by decide +kernel
theorem d_Ro_times_119 : decode b_Ro_times 119 = .ok (.putfield 19, 3) := by decide +kernel
theorem d_Ro_times_122 : decode b_Ro_times 122 = .ok (.iload 4, 2) := by decide +kernel
theorem d_Ro_times_124 : decode b_Ro_times 124 = .ok (.iconst 1, 1) := by decide +kernel
theorem d_Ro_times_125 : decode b_Ro_times 125 = .ok (.isub, 1) := by decide +kernel
theorem d_Ro_times_126 : decode b_Ro_times 126 = .ok (.istore 5, 2) := by decide +kernel
theorem d_Ro_times_128 : decode b_Ro_times 128 = .ok (.iload 5, 2) := by decide +kernel
theorem d_Ro_times_130 : decode b_Ro_times 130 = .ok (.ifCond .lt 29, 3) := by decide +kernel
theorem d_Ro_times_133 : decode b_Ro_times 133 = .ok (.aload_n 0, 1) := by decide +kernel
theorem d_Ro_times_134 : decode b_Ro_times 134 = .ok (.getfield 9, 3) := by decide +kernel
theorem d_Ro_times_137 : decode b_Ro_times 137 = .ok (.iload 5, 2) := by decide +kernel
theorem d_Ro_times_139 : decode b_Ro_times 139 = .ok (.lload_n 2, 1) := by decide +kernel
theorem d_Ro_times_140 : decode b_Ro_times 140 = .ok (.ldc2_w 22, 3) := by decide +kernel
theorem d_Ro_times_143 : decode b_Ro_times 143 = .ok (.lrem, 1) := by decide +kernel
theorem d_Ro_times_144 : decode b_Ro_times 144 = .ok (.l2i, 1) := by decide +kernel
theorem d_Ro_times_145 : decode b_Ro_times 145 = .ok (.i2b, 1) := by decide +kernel
theorem d_Ro_times_146 : decode b_Ro_times 146 = .ok (.bastore, 1) := by decide +kernel
theorem d_Ro_times_147 : decode b_Ro_times 147 = .ok (.lload_n 2, 1) := by decide +kernel
theorem d_Ro_times_148 : decode b_Ro_times 148 = .ok (.ldc2_w 22, 3) := by decide +kernel
theorem d_Ro_times_151 : decode b_Ro_times 151 = .ok (.ldiv, 1) := by decide +kernel
theorem d_Ro_times_152 : decode b_Ro_times 152 = .ok (.lstore_n 2, 1) := by decide +kernel
theorem d_Ro_times_153 : decode b_Ro_times 153 = .ok (.iinc 5 (-1), 3) := by decide +kernel
theorem d_Ro_times_156 : decode b_Ro_times 156 = .ok (.goto (-28), 3) := by decide +kernel
theorem d_Ro_times_159 : decode b_Ro_times 159 = .ok (.aload_n 0, 1) := by decide +kernel
theorem d_Ro_times_160 : decode b_Ro_times 160 = .ok (.invokevirtual 36, 3) := by decide +kernel
theorem d_Ro_times_163 : decode b_Ro_times 163 = .ok (.return_, 1) := by decide +kernel
theorem d_Ro_copy_0 : decode b_Ro_copy 0 = .ok (.aload_n 1, 1) := by decide +kernel
theorem d_Ro_copy_1 : decode b_Ro_copy 1 = .ok (.getfield 9, 3) := by decide +kernel
theorem d_Ro_copy_4 : decode b_Ro_copy 4 = .ok (.iconst 0, 1) := by decide +kernel
theorem d_Ro_copy_5 : decode b_Ro_copy 5 = .ok (.aload_n 0, 1) := by decide +kernel
theorem d_Ro_copy_6 : decode b_Ro_copy 6 = .ok (.getfield 9, 3) := by decide +kernel
theorem d_Ro_copy_9 : decode b_Ro_copy 9 = .ok (.iconst 0, 1) := by decide +kernel
theorem d_Ro_copy_10 : decode b_Ro_copy 10 = .ok (.aload_n 1, 1) := by decide +kernel
theorem d_Ro_copy_11 : decode b_Ro_copy 11 = .ok (.getfield 15, 3) := by decide +kernel
theorem d_Ro_copy_14 : decode b_Ro_copy 14 = .ok (.invokestatic 30, 3) := by decide +kernel
theorem d_Ro_copy_17 : decode b_Ro_copy 17 = .ok (.aload_n 0, 1) := by decide +kernel
theorem d_Ro_copy_18 : decode b_Ro_copy 18 = .ok (.aload_n 1, 1) := by decide +kernel
theorem d_Ro_copy_19 : decode b_Ro_copy 19 = .ok (.getfield 15, 3) := by decide +kernel
theorem d_Ro_copy_22 : decode b_Ro_copy 22 = .ok (.putfield 15, 3) := by decide +kernel
theorem d_Ro_copy_25 : decode b_Ro_copy 25 = .ok (.aload_n 0, 1) := by decide +kernel
theorem d_Ro_copy_26 : decode b_Ro_copy 26 = .ok (.aload_n 1, 1) := by decide +kernel
theorem d_Ro_copy_27 : decode b_Ro_copy 27 = .ok (.getfield 19, 3) := by decide +kernel
theorem d_Ro_copy_30 : decode b_Ro_copy 30 = .ok (.putfield 19, 3) := by decide +kernel
theorem d_Ro_copy_33 : decode b_Ro_copy 33 = .ok (.return_, 1) := by decide +kernel
theorem d_Ro_raise_0 : decode b_Ro_raise 0 = .ok (.aload_n 0, 1) := by decide +kernel
theorem d_Ro_raise_1 : decode b_Ro_raise 1 = .ok (.getfield 15, 3) := by decide +kernel
theorem d_Ro_raise_4 : decode b_Ro_raise 4 = .ok (.iconst 1, 1) := by decide +kernel
theorem d_Ro_raise_5 : decode b_Ro_raise 5 = .ok (.isub, 1) := by decide +kernel
theorem d_Ro_raise_6 : decode b_Ro_raise 6 = .ok (.istore_n 1, 1) := by decide +kernel
theorem d_Ro_raise_7 : decode b_Ro_raise 7 = .ok (.iload_n 1, 1) := by decide +kernel
theorem d_Ro_raise_8 : decode b_Ro_raise 8 = .ok (.ifCond .lt 20, 3) := by decide +kernel
theorem d_Ro_raise_11 : decode b_Ro_raise 11 = .ok (.aload_n 0, 1) := by decide +kernel
theorem d_Ro_raise_12 : decode b_Ro_raise 12 = .ok (.getfield 9, 3) := by decide +kernel
theorem d_Ro_raise_15 : decode b_Ro_raise 15 = .ok (.iload_n 1, 1) := by decide +kernel
theorem d_Ro_raise_16 : decode b_Ro_raise 16 = .ok (.baload, 1) := by decide +kernel
theorem d_Ro_raise_17 : decode b_Ro_raise 17 = .ok (.bipush 9, 2) := by decide +kernel
theorem d_Ro_raise_19 : decode b_Ro_raise 19 = .ok (.if_icmp .ne 9, 3) := by decide +kernel
theorem d_Ro_raise_22 : decode b_Ro_raise 22 = .ok (.iinc 1 (-1), 3) := by decide +kernel
theorem d_Ro_raise_25 : decode b_Ro_raise 25 = .ok (.goto (-18), 3) := by decide +kernel
theorem d_Ro_raise_28 : decode b_Ro_raise 28 = .ok (.iload_n 1, 1) := by decide +kernel
theorem d_Ro_raise_29 : decode b_Ro_raise 29 = .ok (.ifCond .ge 26, 3) := by decide +kernel
theorem d_Ro_raise_32 : decode b_Ro_raise 32 = .ok (.aload_n 0, 1) := by decide +kernel
theorem d_Ro_raise_33 : decode b_Ro_raise 33 = .ok (.getfield 9, 3) := by decide +kernel
theorem d_Ro_raise_36 : decode b_Ro_raise 36 = .ok (.iconst 0, 1) := by decide +kernel
theorem d_Ro_raise_37 : decode b_Ro_raise 37 = .ok (.iconst 1, 1) := by decide +kernel
theorem d_Ro_raise_38 : decode b_Ro_raise 38 = .ok (.bastore, 1) := by decide +kernel
theorem d_Ro_raise_39 : decode b_Ro_raise 39 = .ok (.aload_n 0, 1) := by decide +kernel
theorem d_Ro_raise_40 : decode b_Ro_raise 40 = .ok (.iconst 1, 1) := by decide +kernel
theorem d_Ro_raise_41 : decode b_Ro_raise 41 = .ok (.putfield 15, 3) := by decide +kernel
theorem d_Ro_raise_44 : decode b_Ro_raise 44 = .ok (.aload_n 0, 1) := by decide +kernel
theorem d_Ro_raise_45 : decode b_Ro_raise 45 = .ok (.dup, 1) := by decide +kernel
theorem d_Ro_raise_46 : decode b_Ro_raise 46 = .ok (.getfield 19, 3) := by decide +kernel
theorem d_Ro_raise_49 : decode b_Ro_raise 49 = .ok (.iconst 1, 1) := by decide +kernel
theorem d_Ro_raise_50 : decode b_Ro_raise 50 = .ok (.iadd, 1) := by decide +kernel
theorem d_Ro_raise_51 : decode b_Ro_raise 51 = .ok (.putfield 19, 3) := by decide +kernel
theorem d_Ro_raise_54 : decode b_Ro_raise 54 = .ok (.return_, 1) := by decide +kernel
theorem d_Ro_raise_55 : decode b_Ro_raise 55 = .ok (.aload_n 0, 1) := by decide +kernel
theorem d_Ro_raise_56 : decode b_Ro_raise 56 = .ok (.getfield 9, 3) := by decide +kernel
theorem d_Ro_raise_59 : decode b_Ro_raise 59 = .ok (.iload_n 1, 1) := by decide +kernel
theorem d_Ro_raise_60 : decode b_Ro_raise 60 = .ok (.dup2, 1) := by decide +kernel
theorem d_Ro_raise_61 : decode b_Ro_raise 61 = .ok (.baload, 1) := by decide +kernel
theorem d_Ro_raise_62 : decode b_Ro_raise 62 = .ok (.iconst 1, 1) := by decide +kernel
theorem d_Ro_raise_63 : decode b_Ro_raise 63 = .ok (.iadd, 1) := by decide +kernel
theorem d_Ro_raise_64 : decode b_Ro_raise 64 = .ok (.i2b, 1) := by decide +kernel
theorem d_Ro_raise_65 : decode b_Ro_raise 65 = .ok (.bastore, 1) := by decide +kernel
theorem d_Ro_raise_66 : decode b_Ro_raise 66 = .ok (.aload_n 0, 1) := by decide +kernel
theorem d_Ro_raise_67 : decode b_Ro_raise 67 = .ok (.iload_n 1, 1) := by decide +kernel
theorem d_Ro_raise_68 : decode b_Ro_raise 68 = .ok (.iconst 1, 1) := by decide +kernel
theorem d_Ro_raise_69 : decode b_Ro_raise 69 = .ok (.iadd, 1) := by decide +kernel
theorem d_Ro_raise_70 : decode b_Ro_raise 70 = .ok (.putfield 15, 3) := by decide +kernel
theorem d_Ro_raise_73 : decode b_Ro_raise 73 = .ok (.return_, 1) := by decide +kernel
theorem d_Ro_compare_0 : decode b_Ro_compare 0 = .ok (.aload_n 0, 1) := by decide +kernel
theorem d_Ro_compare_1 : decode b_Ro_compare 1 = .ok (.getfield 19, 3) := by decide +kernel
theorem d_Ro_compare_4 : decode b_Ro_compare 4 = .ok (.aload_n 1, 1) := by decide +kernel
theorem d_Ro_compare_5 : decode b_Ro_compare 5 = .ok (.getfield 19, 3) := by decide +kernel
theorem d_Ro_compare_8 : decode b_Ro_compare 8 = .ok (.invokestatic 43, 3) := by decide +kernel
theorem d_Ro_compare_11 : decode b_Ro_compare 11 = .ok (.istore_n 2, 1) := by decide +kernel
theorem d_Ro_compare_12 : decode b_Ro_compare 12 = .ok (.aload_n 0, 1) := by decide +kernel
theorem d_Ro_compare_13 : decode b_Ro_compare 13 = .ok (.getfield 19, 3) := by decide +kernel
theorem d_Ro_compare_16 : decode b_Ro_compare 16 = .ok (.aload_n 0, 1) := by decide +kernel
theorem d_Ro_compare_17 : decode b_Ro_compare 17 = .ok (.getfield 15, 3) := by decide +kernel
theorem d_Ro_compare_20 : decode b_Ro_compare 20 = .ok (.isub, 1) := by decide +kernel
theorem d_Ro_compare_21 : decode b_Ro_compare 21 = .ok (.aload_n 1, 1) := by decide +kernel
theorem d_Ro_compare_22 : decode b_Ro_compare 22 = .ok (.getfield 19, 3) := by decide +kernel
theorem d_Ro_compare_25 : decode b_Ro_compare 25 = .ok (.aload_n 1, 1) := by decide +kernel
theorem d_Ro_compare_26 : decode b_Ro_compare 26 = .ok (.getfield 15, 3) := by decide +kernel
theorem d_Ro_compare_29 : decode b_Ro_compare 29 = .ok (.isub, 1) := by decide +kernel
theorem d_Ro_compare_30 : decode b_Ro_compare 30 = .ok (.invokestatic 49, 3) := by decide +kernel
theorem d_Ro_compare_33 : decode b_Ro_compare 33 = .ok (.istore_n 3, 1) := by decide +kernel
theorem d_Ro_compare_34 : decode b_Ro_compare 34 = .ok (.iload_n 2, 1) := by decide +kernel
theorem d_Ro_compare_35 : decode b_Ro_compare 35 = .ok (.iload_n 3, 1) := by decide +kernel
theorem d_Ro_compare_36 : decode b_Ro_compare 36 = .ok (.if_icmp .le 34, 3) := by decide +kernel
theorem d_Ro_compare_39 : decode b_Ro_compare 39 = .ok (.aload_n 0, 1) := by decide +kernel
theorem d_Ro_compare_40 : decode b_Ro_compare 40 = .ok (.iload_n 2, 1) := by decide +kernel
theorem d_Ro_compare_41 : decode b_Ro_compare 41 = .ok (.invokevirtual 52, 3) := by decide +kernel
theorem d_Ro_compare_44 : decode b_Ro_compare 44 = .ok (.aload_n 1, 1) := by decide +kernel
theorem d_Ro_compare_45 : decode b_Ro_compare 45 = .ok (.iload_n 2, 1) := by decide +kernel
theorem d_Ro_compare_46 : decode b_Ro_compare 46 = .ok (.invokevirtual 52, 3) := by decide +kernel
theorem d_Ro_compare_49 : decode b_Ro_compare 49 = .ok (.if_icmp .eq 15, 3) := by decide +kernel
theorem d_Ro_compare_52 : decode b_Ro_compare 52 = .ok (.aload_n 0, 1) := by decide +kernel
theorem d_Ro_compare_53 : decode b_Ro_compare 53 = .ok (.iload_n 2, 1) := by decide +kernel
theorem d_Ro_compare_54 : decode b_Ro_compare 54 = .ok (.invokevirtual 52, 3) := by decide +kernel
theorem d_Ro_compare_57 : decode b_Ro_compare 57 = .ok (.aload_n 1, 1) := by decide +kernel
theorem d_Ro_compare_58 : decode b_Ro_compare 58 = .ok (.iload_n 2, 1) := by decide +kernel
theorem d_Ro_compare_59 : decode b_Ro_compare 59 = .ok (.invokevirtual 52, 3) := by decide +kernel
theorem d_Ro_compare_62 : decode b_Ro_compare 62 = .ok (.isub, 1) := by decide +kernel
theorem d_Ro_compare_63 : decode b_Ro_compare 63 = .ok (.ireturn, 1) := by decide +kernel
theorem d_Ro_compare_64 : decode b_Ro_compare 64 = .ok (.iinc 2 (-1), 3) := by decide +kernel
theorem d_Ro_compare_67 : decode b_Ro_compare 67 = .ok (.goto (-33), 3) := by decide +kernel
theorem d_Ro_compare_70 : decode b_Ro_compare 70 = .ok (.iconst 0, 1) := by decide +kernel
theorem d_Ro_compare_71 : decode b_Ro_compare 71 = .ok (.ireturn, 1) := by decide +kernel
theorem d_Ro_at_0 : decode b_Ro_at 0 = .ok (.aload_n 0, 1) := by decide +kernel
theorem d_Ro_at_1 : decode b_Ro_at 1 = .ok (.getfield 19, 3) := by decide +kernel
theorem d_Ro_at_4 : decode b_Ro_at 4 = .ok (.iload_n 1, 1) := by decide +kernel
theorem d_Ro_at_5 : decode b_Ro_at 5 = .ok (.isub, 1) := by decide +kernel
theorem d_Ro_at_6 : decode b_Ro_at 6 = .ok (.istore_n 2, 1) := by decide +kernel
theorem d_Ro_at_7 : decode b_Ro_at 7 = .ok (.iload_n 2, 1) := by decide +kernel
theorem d_Ro_at_8 : decode b_Ro_at 8 = .ok (.ifCond .lt 11, 3) := by decide +kernel
theorem d_Ro_at_11 : decode b_Ro_at 11 = .ok (.iload_n 2, 1) := by decide +kernel
theorem d_Ro_at_12 : decode b_Ro_at 12 = .ok (.aload_n 0, 1) := by decide +kernel
theorem d_Ro_at_13 : decode b_Ro_at 13 = .ok (.getfield 15, 3) := by decide +kernel
theorem d_Ro_at_16 : decode b_Ro_at 16 = .ok (.if_icmp .lt 7, 3) := by decide +kernel
theorem d_Ro_at_19 : decode b_Ro_at 19 = .ok (.iconst 0, 1) := by decide +kernel
theorem d_Ro_at_20 : decode b_Ro_at 20 = .ok (.goto 9, 3) := by decide +kernel
theorem d_Ro_at_23 : decode b_Ro_at 23 = .ok (.aload_n 0, 1) := by decide +kernel
theorem d_Ro_at_24 : decode b_Ro_at 24 = .ok (.getfield 9, 3) := by decide +kernel
theorem d_Ro_at_27 : decode b_Ro_at 27 = .ok (.iload_n 2, 1) := by decide +kernel
theorem d_Ro_at_28 : decode b_Ro_at 28 = .ok (.baload, 1) := by decide +kernel
theorem d_Ro_at_29 : decode b_Ro_at 29 = .ok (.ireturn, 1) := by decide +kernel
end
section
theorem d_Mo_init_0 : decode b_Mo_init 0 = .ok (.aload_n 0, 1) := by decide +kernel
theorem d_Mo_init_1 : decode b_Mo_init 1 = .ok (.invokespecial 1, 3) := by decide +kernel
theorem d_Mo_init_4 : decode b_Mo_init 4 = .ok (.aload_n 0, 1) := by decide +kernel
theorem d_Mo_init_5 : decode b_Mo_init 5 = .ok (.new 7, 3) := by decide +kernel
theorem d_Mo_init_8 : decode b_Mo_init 8 = .ok (.dup, 1) := by decide +kernel
theorem d_Mo_init_9 : decode b_Mo_init 9 = .ok (.invokespecial 9, 3) := by decide +kernel
theorem d_Mo_init_12 : decode b_Mo_init 12 = .ok (.putfield 10, 3) := by decide +kernel
theorem d_Mo_init_15 : decode b_Mo_init 15 = .ok (.aload_n 0, 1) := by decide +kernel
theorem d_Mo_init_16 : decode b_Mo_init 16 = .ok (.new 7, 3) := by decide +kernel
theorem d_Mo_init_19 : decode b_Mo_init 19 = .ok (.dup, 1) := by decide +kernel
theorem d_Mo_init_20 : decode b_Mo_init 20 = .ok (.invokespecial 9, 3) := by decide +kernel
theorem d_Mo_init_23 : decode b_Mo_init 23 = .ok (.putfield 16, 3) := by decide +kernel
theorem d_Mo_init_26 : decode b_Mo_init 26 = .ok (.aload_n 0, 1) := by decide +kernel
theorem d_Mo_init_27 : decode b_Mo_init 27 = .ok (.new 7, 3) := by decide +kernel
theorem d_Mo_init_30 : decode b_Mo_init 30 = .ok (.dup, 1) := by decide +kernel
theorem d_Mo_init_31 : decode b_Mo_init 31 = .ok (.invokespecial 9, 3) := by decide +kernel
theorem d_Mo_init_34 : decode b_Mo_init 34 = .ok (.putfield 19, 3) := by decide +kernel
theorem d_Mo_init_37 : decode b_Mo_init 37 = .ok (.aload_n 0, 1) := by decide +kernel
theorem d_Mo_init_38 : decode b_Mo_init 38 = .ok (.new 7, 3) := by decide +kernel
theorem d_Mo_init_41 : decode b_Mo_init 41 = .ok (.dup, 1) := by decide +kernel
theorem d_Mo_init_42 : decode b_Mo_init 42 = .ok (.invokespecial 9, 3) := by decide +kernel
theorem d_Mo_init_45 : decode b_Mo_init 45 = .ok (.putfield 22, 3) := by decide +kernel
theorem d_Mo_init_48 : decode b_Mo_init 48 = .ok (.aload_n 0, 1) := by decide +kernel
theorem d_Mo_init_49 : decode b_Mo_init 49 = .ok (.new 25, 3) := by decide +kernel
theorem d_Mo_init_52 : decode b_Mo_init 52 = .ok (.dup, 1) := by decide +kernel
theorem d_Mo_init_53 : decode b_Mo_init 53 = .ok (.invokespecial 27, 3) := by decide +kernel
theorem d_Mo_init_56 : decode b_Mo_init 56 = .ok (.putfield 28, 3) := by decide +kernel
theorem d_Mo_init_59 : decode b_Mo_init 59 = .ok (.return_, 1) := by decide +kernel
theorem d_Mo_thrown_0 : decode b_Mo_thrown 0 = .ok (.aload_n 0, 1) := by decide +kernel
theorem d_Mo_thrown_1 : decode b_Mo_thrown 1 = .ok (.getfield 32, 3) := by decide +kernel
theorem d_Mo_thrown_4 : decode b_Mo_thrown 4 = .ok (.ireturn, 1) := by decide +kernel
theorem d_Mo_whole_0 : decode b_Mo_whole 0 = .ok (.aload_n 0, 1) := by decide +kernel
theorem d_Mo_whole_1 : decode b_Mo_whole 1 = .ok (.iconst 0, 1) := by decide +kernel
theorem d_Mo_whole_2 : decode b_Mo_whole 2 = .ok (.putfield 32, 3) := by decide +kernel
theorem d_Mo_whole_5 : decode b_Mo_whole 5 = .ok (.aload_n 0, 1) := by decide +kernel
theorem d_Mo_whole_6 : decode b_Mo_whole 6 = .ok (.getfield 10, 3) := by decide +kernel
theorem d_Mo_whole_9 : decode b_Mo_whole 9 = .ok (.lload_n 1, 1) := by decide +kernel
theorem d_Mo_whole_10 : decode b_Mo_whole 10 = .ok (.invokevirtual 46, 3) := by decide +kernel
theorem d_Mo_whole_13 : decode b_Mo_whole 13 = .ok (.aload_n 0, 1) := by decide +kernel
theorem d_Mo_whole_14 : decode b_Mo_whole 14 = .ok (.iconst 0, 1) := by decide +kernel
theorem d_Mo_whole_15 : decode b_Mo_whole 15 = .ok (.putfield 39, 3) := by decide +kernel
theorem d_Mo_whole_18 : decode b_Mo_whole 18 = .ok (.aload_n 0, 1) := by decide +kernel
theorem d_Mo_whole_19 : decode b_Mo_whole 19 = .ok (.getfield 10, 3) := by decide +kernel
theorem d_Mo_whole_22 : decode b_Mo_whole 22 = .ok (.getfield 36, 3) := by decide +kernel
theorem d_Mo_whole_25 : decode b_Mo_whole 25 = .ok (.ireturn, 1) := by decide +kernel
theorem d_Mo_real_0 : decode b_Mo_real 0 = .ok (.aload_n 0, 1) := by decide +kernel
theorem d_Mo_real_1 : decode b_Mo_real 1 = .ok (.lload_n 1, 1) := by decide +kernel
theorem d_Mo_real_2 : decode b_Mo_real 2 = .ok (.iload_n 3, 1) := by decide +kernel
theorem d_Mo_real_3 : decode b_Mo_real 3 = .ok (.invokevirtual 66, 3) := by decide +kernel
theorem d_Mo_real_6 : decode b_Mo_real 6 = .ok (.ifCond .ne 5, 3) := by decide +kernel
theorem d_Mo_real_9 : decode b_Mo_real 9 = .ok (.iconst 0, 1) := by decide +kernel
theorem d_Mo_real_10 : decode b_Mo_real 10 = .ok (.ireturn, 1) := by decide +kernel
theorem d_Mo_real_11 : decode b_Mo_real 11 = .ok (.aload_n 0, 1) := by decide +kernel
theorem d_Mo_real_12 : decode b_Mo_real 12 = .ok (.getfield 10, 3) := by decide +kernel
theorem d_Mo_real_15 : decode b_Mo_real 15 = .ok (.aload_n 0, 1) := by decide +kernel
theorem d_Mo_real_16 : decode b_Mo_real 16 = .ok (.getfield 50, 3) := by decide +kernel
theorem d_Mo_real_19 : decode b_Mo_real 19 = .ok (.invokevirtual 46, 3) := by decide +kernel
theorem d_Mo_real_22 : decode b_Mo_real 22 = .ok (.aload_n 0, 1) := by decide +kernel
theorem d_Mo_real_23 : decode b_Mo_real 23 = .ok (.getfield 10, 3) := by decide +kernel
theorem d_Mo_real_26 : decode b_Mo_real 26 = .ok (.aload_n 0, 1) := by decide +kernel
theorem d_Mo_real_27 : decode b_Mo_real 27 = .ok (.getfield 60, 3) := by decide +kernel
theorem d_Mo_real_30 : decode b_Mo_real 30 = .ok (.invokevirtual 70, 3) := by decide +kernel
theorem d_Mo_real_33 : decode b_Mo_real 33 = .ok (.aload_n 0, 1) := by decide +kernel
theorem d_Mo_real_34 : decode b_Mo_real 34 = .ok (.getfield 10, 3) := by decide +kernel
theorem d_Mo_real_37 : decode b_Mo_real 37 = .ok (.getfield 36, 3) := by decide +kernel
theorem d_Mo_real_40 : decode b_Mo_real 40 = .ok (.ireturn, 1) := by decide +kernel
theorem d_Mo_isNumber_0 : decode b_Mo_isNumber 0 = .ok (.iload_n 3, 1) := by decide +kernel
theorem d_Mo_isNumber_1 : decode b_Mo_isNumber 1 = .ok (.ifCond .eq 8, 3) := by decide +kernel
theorem d_Mo_isNumber_4 : decode b_Mo_isNumber 4 = .ok (.bipush 23, 2) := by decide +kernel
theorem d_Mo_isNumber_6 : decode b_Mo_isNumber 6 = .ok (.goto 5, 3) := by decide +kernel
theorem d_Mo_isNumber_9 : decode b_Mo_isNumber 9 = .ok (.bipush 52, 2) := by decide +kernel
theorem d_Mo_isNumber_11 : decode b_Mo_isNumber 11 = .ok (.istore 4, 2) := by decide +kernel
theorem d_Mo_isNumber_13 : decode b_Mo_isNumber 13 = .ok (.lload_n 1, 1) := by decide +kernel
theorem d_Mo_isNumber_14 : decode b_Mo_isNumber 14 = .ok (.iload 4, 2) := by decide +kernel
theorem d_Mo_isNumber_16 : decode b_Mo_isNumber 16 = .ok (.lshr, 1) := by decide +kernel
theorem d_Mo_isNumber_17 : decode b_Mo_isNumber 17 = .ok (.l2i, 1) := by decide +kernel
theorem d_Mo_isNumber_18 : decode b_Mo_isNumber 18 = .ok (.iload_n 3, 1) := by decide +kernel
theorem d_Mo_isNumber_19 : decode b_Mo_isNumber 19 = .ok (.ifCond .eq 9, 3) := by decide +kernel
theorem d_Mo_isNumber_22 : decode b_Mo_isNumber 22 = .ok (.sipush 255, 3) := by decide +kernel
theorem d_Mo_isNumber_25 : decode b_Mo_isNumber 25 = .ok (.goto 6, 3) := by decide +kernel
theorem d_Mo_isNumber_28 : decode b_Mo_isNumber 28 = .ok (.sipush 2047, 3) := by decide +kernel
theorem d_Mo_isNumber_31 : decode b_Mo_isNumber 31 = .ok (.iand, 1) := by decide +kernel
theorem d_Mo_isNumber_32 : decode b_Mo_isNumber 32 = .ok (.istore 5, 2) := by decide +kernel
theorem d_Mo_isNumber_34 : decode b_Mo_isNumber 34 = .ok (.lload_n 1, 1) := by decide +kernel
theorem d_Mo_isNumber_35 : decode b_Mo_isNumber 35 = .ok (.lconst 1, 1) := by decide +kernel
theorem d_Mo_isNumber_36 : decode b_Mo_isNumber 36 = .ok (.iload 4, 2) := by decide +kernel
theorem d_Mo_isNumber_38 : decode b_Mo_isNumber 38 = .ok (.lshl, 1) := by decide +kernel
theorem d_Mo_isNumber_39 : decode b_Mo_isNumber 39 = .ok (.lconst 1, 1) := by decide +kernel
theorem d_Mo_isNumber_40 : decode b_Mo_isNumber 40 = .ok (.lsub, 1) := by decide +kernel
theorem d_Mo_isNumber_41 : decode b_Mo_isNumber 41 = .ok (.land, 1) := by decide +kernel
theorem d_Mo_isNumber_42 : decode b_Mo_isNumber 42 = .ok (.lstore 6, 2) := by decide +kernel
theorem d_Mo_isNumber_44 : decode b_Mo_isNumber 44 = .ok (.aload_n 0, 1) := by decide +kernel
theorem d_Mo_isNumber_45 : decode b_Mo_isNumber 45 = .ok (.iload 5, 2) := by decide +kernel
theorem d_Mo_isNumber_47 : decode b_Mo_isNumber 47 = .ok (.iload_n 3, 1) := by decide +kernel
theorem d_Mo_isNumber_48 : decode b_Mo_isNumber 48 = .ok (.ifCond .eq 9, 3) := by decide +kernel
theorem d_Mo_isNumber_51 : decode b_Mo_isNumber 51 = .ok (.sipush 255, 3) := by decide +kernel
theorem d_Mo_isNumber_54 : decode b_Mo_isNumber 54 = .ok (.goto 6, 3) := by decide +kernel
theorem d_Mo_isNumber_57 : decode b_Mo_isNumber 57 = .ok (.sipush 2047, 3) := by decide +kernel
theorem d_Mo_isNumber_60 : decode b_Mo_isNumber 60 = .ok (.if_icmp .ne 7, 3) := by decide +kernel
theorem d_Mo_isNumber_63 : decode b_Mo_isNumber 63 = .ok (.iconst 1, 1) := by decide +kernel
theorem d_Mo_isNumber_64 : decode b_Mo_isNumber 64 = .ok (.goto 4, 3) := by decide +kernel
theorem d_Mo_isNumber_67 : decode b_Mo_isNumber 67 = .ok (.iconst 0, 1) := by decide +kernel
theorem d_Mo_isNumber_68 : decode b_Mo_isNumber 68 = .ok (.putfield 32, 3) := by decide +kernel
theorem d_Mo_isNumber_71 : decode b_Mo_isNumber 71 = .ok (.aload_n 0, 1) := by decide +kernel
theorem d_Mo_isNumber_72 : decode b_Mo_isNumber 72 = .ok (.getfield 32, 3) := by decide +kernel
theorem d_Mo_isNumber_75 : decode b_Mo_isNumber 75 = .ok (.ifCond .le 5, 3) := by decide +kernel
theorem d_Mo_isNumber_78 : decode b_Mo_isNumber 78 = .ok (.iconst 0, 1) := by decide +kernel
theorem d_Mo_isNumber_79 : decode b_Mo_isNumber 79 = .ok (.ireturn, 1) := by decide +kernel
theorem d_Mo_isNumber_80 : decode b_Mo_isNumber 80 = .ok (.aload_n 0, 1) := by decide +kernel
theorem d_Mo_isNumber_81 : decode b_Mo_isNumber 81 = .ok (.iload 5, 2) := by decide +kernel
theorem d_Mo_isNumber_83 : decode b_Mo_isNumber 83 = .ok (.ifCond .ne 8, 3) := by decide +kernel
theorem d_Mo_isNumber_86 : decode b_Mo_isNumber 86 = .ok (.lload 6, 2) := by decide +kernel
theorem d_Mo_isNumber_88 : decode b_Mo_isNumber 88 = .ok (.goto 10, 3) := by decide +kernel
theorem d_Mo_isNumber_91 : decode b_Mo_isNumber 91 = .ok (.lload 6, 2) := by decide +kernel
theorem d_Mo_isNumber_93 : decode b_Mo_isNumber 93 = .ok (.lconst 1, 1) := by decide +kernel
theorem d_Mo_isNumber_94 : decode b_Mo_isNumber 94 = .ok (.iload 4, 2) := by decide +kernel
theorem d_Mo_isNumber_96 : decode b_Mo_isNumber 96 = .ok (.lshl, 1) := by decide +kernel
theorem d_Mo_isNumber_97 : decode b_Mo_isNumber 97 = .ok (.lor, 1) := by decide +kernel
theorem d_Mo_isNumber_98 : decode b_Mo_isNumber 98 = .ok (.putfield 50, 3) := by decide +kernel
theorem d_Mo_isNumber_101 : decode b_Mo_isNumber 101 = .ok (.aload_n 0, 1) := by decide +kernel
theorem d_Mo_isNumber_102 : decode b_Mo_isNumber 102 = .ok (.iload 5, 2) := by decide +kernel
theorem d_Mo_isNumber_104 : decode b_Mo_isNumber 104 = .ok (.iconst 1, 1) := by decide +kernel
theorem d_Mo_isNumber_105 : decode b_Mo_isNumber 105 = .ok (.invokestatic 54, 3) := by decide +kernel
theorem d_Mo_isNumber_108 : decode b_Mo_isNumber 108 = .ok (.iload_n 3, 1) := by decide +kernel
theorem d_Mo_isNumber_109 : decode b_Mo_isNumber 109 = .ok (.ifCond .eq 9, 3) := by decide +kernel
theorem d_Mo_isNumber_112 : decode b_Mo_isNumber 112 = .ok (.sipush 150, 3) := by decide +kernel
theorem d_Mo_isNumber_115 : decode b_Mo_isNumber 115 = .ok (.goto 6, 3) := by decide +kernel
theorem d_Mo_isNumber_118 : decode b_Mo_isNumber 118 = .ok (.sipush 1075, 3) := by decide +kernel
theorem d_Mo_isNumber_121 : decode b_Mo_isNumber 121 = .ok (.isub, 1) := by decide +kernel
theorem d_Mo_isNumber_122 : decode b_Mo_isNumber 122 = .ok (.putfield 60, 3) := by decide +kernel
theorem d_Mo_isNumber_125 : decode b_Mo_isNumber 125 = .ok (.aload_n 0, 1) := by decide +kernel
theorem d_Mo_isNumber_126 : decode b_Mo_isNumber 126 = .ok (.lload 6, 2) := by decide +kernel
theorem d_Mo_isNumber_128 : decode b_Mo_isNumber 128 = .ok (.lconst 0, 1) := by decide +kernel
theorem d_Mo_isNumber_129 : decode b_Mo_isNumber 129 = .ok (.lcmp, 1) := by decide +kernel
theorem d_Mo_isNumber_130 : decode b_Mo_isNumber 130 = .ok (.ifCond .ne 13, 3) := by decide +kernel
theorem d_Mo_isNumber_133 : decode b_Mo_isNumber 133 = .ok (.iload 5, 2) := by decide +kernel
theorem d_Mo_isNumber_135 : decode b_Mo_isNumber 135 = .ok (.iconst 1, 1) := by decide +kernel
theorem d_Mo_isNumber_136 : decode b_Mo_isNumber 136 = .ok (.if_icmp .le 7, 3) := by decide +kernel
theorem d_Mo_isNumber_139 : decode b_Mo_isNumber 139 = .ok (.iconst 1, 1) := by decide +kernel
theorem d_Mo_isNumber_140 : decode b_Mo_isNumber 140 = .ok (.goto 4, 3) := by decide +kernel
theorem d_Mo_isNumber_143 : decode b_Mo_isNumber 143 = .ok (.iconst 0, 1) := by decide +kernel
theorem d_Mo_isNumber_144 : decode b_Mo_isNumber 144 = .ok (.putfield 63, 3) := by decide +kernel
theorem d_Mo_isNumber_147 : decode b_Mo_isNumber 147 = .ok (.aload_n 0, 1) := by decide +kernel
theorem d_Mo_isNumber_148 : decode b_Mo_isNumber 148 = .ok (.iconst 0, 1) := by decide +kernel
theorem d_Mo_isNumber_149 : decode b_Mo_isNumber 149 = .ok (.putfield 39, 3) := by decide +kernel
theorem d_Mo_isNumber_152 : decode b_Mo_isNumber 152 = .ok (.iconst 1, 1) := by decide +kernel
theorem d_Mo_isNumber_153 : decode b_Mo_isNumber 153 = .ok (.ireturn, 1) := by decide +kernel
theorem d_Mo_shortest_0 : decode b_Mo_shortest 0 = .ok (.aload_n 0, 1) := by decide +kernel
theorem d_Mo_shortest_1 : decode b_Mo_shortest 1 = .ok (.lload_n 1, 1) := by decide +kernel
theorem d_Mo_shortest_2 : decode b_Mo_shortest 2 = .ok (.iload_n 3, 1) := by decide +kernel
theorem d_Mo_shortest_3 : decode b_Mo_shortest 3 = .ok (.invokevirtual 66, 3) := by decide +kernel
theorem d_Mo_shortest_6 : decode b_Mo_shortest 6 = .ok (.ifCond .ne 5, 3) := by decide +kernel
theorem d_Mo_shortest_9 : decode b_Mo_shortest 9 = .ok (.iconst 0, 1) := by decide +kernel
theorem d_Mo_shortest_10 : decode b_Mo_shortest 10 = .ok (.ireturn, 1) := by decide +kernel
theorem d_Mo_shortest_11 : decode b_Mo_shortest 11 = .ok (.aload_n 0, 1) := by decide +kernel
theorem d_Mo_shortest_12 : decode b_Mo_shortest 12 = .ok (.getfield 22, 3) := by decide +kernel
theorem d_Mo_shortest_15 : decode b_Mo_shortest 15 = .ok (.aload_n 0, 1) := by decide +kernel
theorem d_Mo_shortest_16 : decode b_Mo_shortest 16 = .ok (.getfield 50, 3) := by decide +kernel
theorem d_Mo_shortest_19 : decode b_Mo_shortest 19 = .ok (.invokevirtual 46, 3) := by decide +kernel
theorem d_Mo_shortest_22 : decode b_Mo_shortest 22 = .ok (.aload_n 0, 1) := by decide +kernel
theorem d_Mo_shortest_23 : decode b_Mo_shortest 23 = .ok (.getfield 22, 3) := by decide +kernel
theorem d_Mo_shortest_26 : decode b_Mo_shortest 26 = .ok (.aload_n 0, 1) := by decide +kernel
theorem d_Mo_shortest_27 : decode b_Mo_shortest 27 = .ok (.getfield 60, 3) := by decide +kernel
theorem d_Mo_shortest_30 : decode b_Mo_shortest 30 = .ok (.invokevirtual 70, 3) := by decide +kernel
theorem d_Mo_shortest_33 : decode b_Mo_shortest 33 = .ok (.aload_n 0, 1) := by decide +kernel
theorem d_Mo_shortest_34 : decode b_Mo_shortest 34 = .ok (.getfield 10, 3) := by decide +kernel
theorem d_Mo_shortest_37 : decode b_Mo_shortest 37 = .ok (.aload_n 0, 1) := by decide +kernel
theorem d_Mo_shortest_38 : decode b_Mo_shortest 38 = .ok (.getfield 22, 3) := by decide +kernel
theorem d_Mo_shortest_41 : decode b_Mo_shortest 41 = .ok (.invokevirtual 74, 3) := by decide +kernel
theorem d_Mo_shortest_44 : decode b_Mo_shortest 44 = .ok (.aload_n 0, 1) := by decide +kernel
theorem d_Mo_shortest_45 : decode b_Mo_shortest 45 = .ok (.getfield 50, 3) := by decide +kernel
theorem d_Mo_shortest_48 : decode b_Mo_shortest 48 = .ok (.lconst 0, 1) := by decide +kernel
theorem d_Mo_shortest_49 : decode b_Mo_shortest 49 = .ok (.lcmp, 1) := by decide +kernel
theorem d_Mo_shortest_50 : decode b_Mo_shortest 50 = .ok (.ifCond .ne 5, 3) := by decide +kernel
theorem d_Mo_shortest_53 : decode b_Mo_shortest 53 = .ok (.iconst 0, 1) := by decide +kernel
theorem d_Mo_shortest_54 : decode b_Mo_shortest 54 = .ok (.ireturn, 1) := by decide +kernel
theorem d_Mo_shortest_55 : decode b_Mo_shortest 55 = .ok (.aload_n 0, 1) := by decide +kernel
theorem d_Mo_shortest_56 : decode b_Mo_shortest 56 = .ok (.getfield 19, 3) := by decide +kernel
theorem d_Mo_shortest_59 : decode b_Mo_shortest 59 = .ok (.ldc2_w 78, 3) := by decide +kernel
theorem d_Mo_shortest_62 : decode b_Mo_shortest 62 = .ok (.aload_n 0, 1) := by decide +kernel
theorem d_Mo_shortest_63 : decode b_Mo_shortest 63 = .ok (.getfield 50, 3) := by decide +kernel
theorem d_Mo_shortest_66 : decode b_Mo_shortest 66 = .ok (.lmul, 1) := by decide +kernel
theorem d_Mo_shortest_67 : decode b_Mo_shortest 67 = .ok (.lconst 1, 1) := by decide +kernel
theorem d_Mo_shortest_68 : decode b_Mo_shortest 68 = .ok (.ladd, 1) := by decide +kernel
theorem d_Mo_shortest_69 : decode b_Mo_shortest 69 = .ok (.invokevirtual 46, 3) := by decide +kernel
theorem d_Mo_shortest_72 : decode b_Mo_shortest 72 = .ok (.aload_n 0, 1) := by decide +kernel
theorem d_Mo_shortest_73 : decode b_Mo_shortest 73 = .ok (.getfield 19, 3) := by decide +kernel
theorem d_Mo_shortest_76 : decode b_Mo_shortest 76 = .ok (.aload_n 0, 1) := by decide +kernel
theorem d_Mo_shortest_77 : decode b_Mo_shortest 77 = .ok (.getfield 60, 3) := by decide +kernel
theorem d_Mo_shortest_80 : decode b_Mo_shortest 80 = .ok (.iconst 1, 1) := by decide +kernel
theorem d_Mo_shortest_81 : decode b_Mo_shortest 81 = .ok (.isub, 1) := by decide +kernel
theorem d_Mo_shortest_82 : decode b_Mo_shortest 82 = .ok (.invokevirtual 70, 3) := by decide +kernel
theorem d_Mo_shortest_85 : decode b_Mo_shortest 85 = .ok (.aload_n 0, 1) := by decide +kernel
theorem d_Mo_shortest_86 : decode b_Mo_shortest 86 = .ok (.getfield 16, 3) := by decide +kernel
theorem d_Mo_shortest_89 : decode b_Mo_shortest 89 = .ok (.aload_n 0, 1) := by decide +kernel
theorem d_Mo_shortest_90 : decode b_Mo_shortest 90 = .ok (.getfield 63, 3) := by decide +kernel
theorem d_Mo_shortest_93 : decode b_Mo_shortest 93 = .ok (.ifCond .eq 16, 3) := by decide +kernel
theorem d_Mo_shortest_96 : decode b_Mo_shortest 96 = .ok (.ldc2_w 80, 3) := by decide +kernel
theorem d_Mo_shortest_99 : decode b_Mo_shortest 99 = .ok (.aload_n 0, 1) := by decide +kernel
theorem d_Mo_shortest_100 : decode b_Mo_shortest 100 = .ok (.getfield 50, 3) := by decide +kernel
theorem d_Mo_shortest_103 : decode b_Mo_shortest 103 = .ok (.lmul, 1) := by decide +kernel
theorem d_Mo_shortest_104 : decode b_Mo_shortest 104 = .ok (.lconst 1, 1) := by decide +kernel
theorem d_Mo_shortest_105 : decode b_Mo_shortest 105 = .ok (.lsub, 1) := by decide +kernel
theorem d_Mo_shortest_106 : decode b_Mo_shortest 106 = .ok (.goto 13, 3) := by decide +kernel
theorem d_Mo_shortest_109 : decode b_Mo_shortest 109 = .ok (.ldc2_w 78, 3) := by decide +kernel
theorem d_Mo_shortest_112 : decode b_Mo_shortest 112 = .ok (.aload_n 0, 1) := by decide +kernel
theorem d_Mo_shortest_113 : decode b_Mo_shortest 113 = .ok (.getfield 50, 3) := by decide +kernel
theorem d_Mo_shortest_116 : decode b_Mo_shortest 116 = .ok (.lmul, 1) := by decide +kernel
theorem d_Mo_shortest_117 : decode b_Mo_shortest 117 = .ok (.lconst 1, 1) := by decide +kernel
theorem d_Mo_shortest_118 : decode b_Mo_shortest 118 = .ok (.lsub, 1) := by decide +kernel
theorem d_Mo_shortest_119 : decode b_Mo_shortest 119 = .ok (.invokevirtual 46, 3) := by decide +kernel
theorem d_Mo_shortest_122 : decode b_Mo_shortest 122 = .ok (.aload_n 0, 1) := by decide +kernel
theorem d_Mo_shortest_123 : decode b_Mo_shortest 123 = .ok (.getfield 16, 3) := by decide +kernel
theorem d_Mo_shortest_126 : decode b_Mo_shortest 126 = .ok (.aload_n 0, 1) := by decide +kernel
theorem d_Mo_shortest_127 : decode b_Mo_shortest 127 = .ok (.getfield 63, 3) := by decide +kernel
theorem d_Mo_shortest_130 : decode b_Mo_shortest 130 = .ok (.ifCond .eq 12, 3) := by decide +kernel
theorem d_Mo_shortest_133 : decode b_Mo_shortest 133 = .ok (.aload_n 0, 1) := by decide +kernel
theorem d_Mo_shortest_134 : decode b_Mo_shortest 134 = .ok (.getfield 60, 3) := by decide +kernel
theorem d_Mo_shortest_137 : decode b_Mo_shortest 137 = .ok (.iconst 2, 1) := by decide +kernel
theorem d_Mo_shortest_138 : decode b_Mo_shortest 138 = .ok (.isub, 1) := by decide +kernel
theorem d_Mo_shortest_139 : decode b_Mo_shortest 139 = .ok (.goto 9, 3) := by decide +kernel
theorem d_Mo_shortest_142 : decode b_Mo_shortest 142 = .ok (.aload_n 0, 1) := by decide +kernel
theorem d_Mo_shortest_143 : decode b_Mo_shortest 143 = .ok (.getfield 60, 3) := by decide +kernel
theorem d_Mo_shortest_146 : decode b_Mo_shortest 146 = .ok (.iconst 1, 1) := by decide +kernel
theorem d_Mo_shortest_147 : decode b_Mo_shortest 147 = .ok (.isub, 1) := by decide +kernel
theorem d_Mo_shortest_148 : decode b_Mo_shortest 148 = .ok (.invokevirtual 70, 3) := by decide +kernel
theorem d_Mo_shortest_151 : decode b_Mo_shortest 151 = .ok (.aload_n 0, 1) := by decide +kernel
theorem d_Mo_shortest_152 : decode b_Mo_shortest 152 = .ok (.getfield 50, 3) := by decide +kernel
theorem d_Mo_shortest_155 : decode b_Mo_shortest 155 = .ok (.lconst 1, 1) := by decide +kernel
theorem d_Mo_shortest_156 : decode b_Mo_shortest 156 = .ok (.land, 1) := by decide +kernel
theorem d_Mo_shortest_157 : decode b_Mo_shortest 157 = .ok (.lconst 0, 1) := by decide +kernel
theorem d_Mo_shortest_158 : decode b_Mo_shortest 158 = .ok (.lcmp, 1) := by decide +kernel
theorem d_Mo_shortest_159 : decode b_Mo_shortest 159 = .ok (.ifCond .ne 7, 3) := by decide +kernel
theorem d_Mo_shortest_162 : decode b_Mo_shortest 162 = .ok (.iconst 1, 1) := by decide +kernel
theorem d_Mo_shortest_163 : decode b_Mo_shortest 163 = .ok (.goto 4, 3) := by decide +kernel
theorem d_Mo_shortest_166 : decode b_Mo_shortest 166 = .ok (.iconst 0, 1) := by decide +kernel
theorem d_Mo_shortest_167 : decode b_Mo_shortest 167 = .ok (.istore 4, 2) := by decide +kernel
theorem d_Mo_shortest_169 : decode b_Mo_shortest 169 = .ok (.iconst 2, 1) := by decide +kernel
theorem d_Mo_shortest_170 : decode b_Mo_shortest 170 = .ok (.istore 5, 2) := by decide +kernel
theorem d_Mo_shortest_172 : decode b_Mo_shortest 172 = .ok (.iload 5, 2) := by decide +kernel
theorem d_Mo_shortest_174 : decode b_Mo_shortest 174 = .ok (.aload_n 0, 1) := by decide +kernel
theorem d_Mo_shortest_175 : decode b_Mo_shortest 175 = .ok (.getfield 22, 3) := by decide +kernel
theorem d_Mo_shortest_178 : decode b_Mo_shortest 178 = .ok (.getfield 36, 3) := by decide +kernel
theorem d_Mo_shortest_181 : decode b_Mo_shortest 181 = .ok (.if_icmp .ge 156, 3) := by decide +kernel
theorem d_Mo_shortest_184 : decode b_Mo_shortest 184 = .ok (.aload_n 0, 1) := by decide +kernel
theorem d_Mo_shortest_185 : decode b_Mo_shortest 185 = .ok (.iload 5, 2) := by decide +kernel
theorem d_Mo_shortest_187 : decode b_Mo_shortest 187 = .ok (.iconst 0, 1) := by decide +kernel
theorem d_Mo_shortest_188 : decode b_Mo_shortest 188 = .ok (.invokevirtual 82, 3) := by decide +kernel
theorem d_Mo_shortest_191 : decode b_Mo_shortest 191 = .ok (.aload_n 0, 1) := by decide +kernel
theorem d_Mo_shortest_192 : decode b_Mo_shortest 192 = .ok (.iload 4, 2) := by decide +kernel
theorem d_Mo_shortest_194 : decode b_Mo_shortest 194 = .ok (.invokevirtual 86, 3) := by decide +kernel
theorem d_Mo_shortest_197 : decode b_Mo_shortest 197 = .ok (.istore 6, 2) := by decide +kernel
theorem d_Mo_shortest_199 : decode b_Mo_shortest 199 = .ok (.aload_n 0, 1) := by decide +kernel
theorem d_Mo_shortest_200 : decode b_Mo_shortest 200 = .ok (.iload 5, 2) := by decide +kernel
theorem d_Mo_shortest_202 : decode b_Mo_shortest 202 = .ok (.iconst 1, 1) := by decide +kernel
theorem d_Mo_shortest_203 : decode b_Mo_shortest 203 = .ok (.invokevirtual 82, 3) := by decide +kernel
theorem d_Mo_shortest_206 : decode b_Mo_shortest 206 = .ok (.aload_n 0, 1) := by decide +kernel
theorem d_Mo_shortest_207 : decode b_Mo_shortest 207 = .ok (.iload 4, 2) := by decide +kernel
theorem d_Mo_shortest_209 : decode b_Mo_shortest 209 = .ok (.invokevirtual 86, 3) := by decide +kernel
theorem d_Mo_shortest_212 : decode b_Mo_shortest 212 = .ok (.istore 7, 2) := by decide +kernel
theorem d_Mo_shortest_214 : decode b_Mo_shortest 214 = .ok (.iload 6, 2) := by decide +kernel
theorem d_Mo_shortest_216 : decode b_Mo_shortest 216 = .ok (.ifCond .ne 11, 3) := by decide +kernel
theorem d_Mo_shortest_219 : decode b_Mo_shortest 219 = .ok (.iload 7, 2) := by decide +kernel
theorem d_Mo_shortest_221 : decode b_Mo_shortest 221 = .ok (.ifCond .ne 6, 3) := by decide +kernel
theorem d_Mo_shortest_224 : decode b_Mo_shortest 224 = .ok (.goto 107, 3) := by decide +kernel
theorem d_Mo_shortest_227 : decode b_Mo_shortest 227 = .ok (.aload_n 0, 1) := by decide +kernel
theorem d_Mo_shortest_228 : decode b_Mo_shortest 228 = .ok (.getfield 22, 3) := by decide +kernel
theorem d_Mo_shortest_231 : decode b_Mo_shortest 231 = .ok (.getfield 90, 3) := by decide +kernel
theorem d_Mo_shortest_234 : decode b_Mo_shortest 234 = .ok (.iload 5, 2) := by decide +kernel
theorem d_Mo_shortest_236 : decode b_Mo_shortest 236 = .ok (.baload, 1) := by decide +kernel
theorem d_Mo_shortest_237 : decode b_Mo_shortest 237 = .ok (.istore 8, 2) := by decide +kernel
theorem d_Mo_shortest_239 : decode b_Mo_shortest 239 = .ok (.iload 8, 2) := by decide +kernel
theorem d_Mo_shortest_241 : decode b_Mo_shortest 241 = .ok (.iconst 5, 1) := by decide +kernel
theorem d_Mo_shortest_242 : decode b_Mo_shortest 242 = .ok (.if_icmp .ne 21, 3) := by decide +kernel
theorem d_Mo_shortest_245 : decode b_Mo_shortest 245 = .ok (.aload_n 0, 1) := by decide +kernel
theorem d_Mo_shortest_246 : decode b_Mo_shortest 246 = .ok (.getfield 22, 3) := by decide +kernel
theorem d_Mo_shortest_249 : decode b_Mo_shortest 249 = .ok (.getfield 36, 3) := by decide +kernel
theorem d_Mo_shortest_252 : decode b_Mo_shortest 252 = .ok (.iload 5, 2) := by decide +kernel
theorem d_Mo_shortest_254 : decode b_Mo_shortest 254 = .ok (.iconst 1, 1) := by decide +kernel
theorem d_Mo_shortest_255 : decode b_Mo_shortest 255 = .ok (.iadd, 1) := by decide +kernel
theorem d_Mo_shortest_256 : decode b_Mo_shortest 256 = .ok (.if_icmp .ne 7, 3) := by decide +kernel
theorem d_Mo_shortest_259 : decode b_Mo_shortest 259 = .ok (.iconst 1, 1) := by decide +kernel
theorem d_Mo_shortest_260 : decode b_Mo_shortest 260 = .ok (.goto 4, 3) := by decide +kernel
theorem d_Mo_shortest_263 : decode b_Mo_shortest 263 = .ok (.iconst 0, 1) := by decide +kernel
theorem d_Mo_shortest_264 : decode b_Mo_shortest 264 = .ok (.istore 9, 2) := by decide +kernel
theorem d_Mo_shortest_266 : decode b_Mo_shortest 266 = .ok (.iload 7, 2) := by decide +kernel
theorem d_Mo_shortest_268 : decode b_Mo_shortest 268 = .ok (.ifCond .eq 44, 3) := by decide +kernel
theorem d_Mo_shortest_271 : decode b_Mo_shortest 271 = .ok (.iload 6, 2) := by decide +kernel
theorem d_Mo_shortest_273 : decode b_Mo_shortest 273 = .ok (.ifCond .eq 35, 3) := by decide +kernel
theorem d_Mo_shortest_276 : decode b_Mo_shortest 276 = .ok (.iload 9, 2) := by decide +kernel
theorem d_Mo_shortest_278 : decode b_Mo_shortest 278 = .ok (.ifCond .eq 24, 3) := by decide +kernel
theorem d_Mo_shortest_281 : decode b_Mo_shortest 281 = .ok (.aload_n 0, 1) := by decide +kernel
theorem d_Mo_shortest_282 : decode b_Mo_shortest 282 = .ok (.getfield 22, 3) := by decide +kernel
theorem d_Mo_shortest_285 : decode b_Mo_shortest 285 = .ok (.getfield 90, 3) := by decide +kernel
theorem d_Mo_shortest_288 : decode b_Mo_shortest 288 = .ok (.iload 5, 2) := by decide +kernel
theorem d_Mo_shortest_290 : decode b_Mo_shortest 290 = .ok (.iconst 1, 1) := by decide +kernel
theorem d_Mo_shortest_291 : decode b_Mo_shortest 291 = .ok (.isub, 1) := by decide +kernel
theorem d_Mo_shortest_292 : decode b_Mo_shortest 292 = .ok (.baload, 1) := by decide +kernel
theorem d_Mo_shortest_293 : decode b_Mo_shortest 293 = .ok (.iconst 2, 1) := by decide +kernel
theorem d_Mo_shortest_294 : decode b_Mo_shortest 294 = .ok (.irem, 1) := by decide +kernel
theorem d_Mo_shortest_295 : decode b_Mo_shortest 295 = .ok (.iconst 1, 1) := by decide +kernel
theorem d_Mo_shortest_296 : decode b_Mo_shortest 296 = .ok (.if_icmp .ne 16, 3) := by decide +kernel
theorem d_Mo_shortest_299 : decode b_Mo_shortest 299 = .ok (.goto 9, 3) := by decide +kernel
theorem d_Mo_shortest_302 : decode b_Mo_shortest 302 = .ok (.iload 8, 2) := by decide +kernel
theorem d_Mo_shortest_304 : decode b_Mo_shortest 304 = .ok (.iconst 5, 1) := by decide +kernel
theorem d_Mo_shortest_305 : decode b_Mo_shortest 305 = .ok (.if_icmp .lt 7, 3) := by decide +kernel
theorem d_Mo_shortest_308 : decode b_Mo_shortest 308 = .ok (.iconst 1, 1) := by decide +kernel
theorem d_Mo_shortest_309 : decode b_Mo_shortest 309 = .ok (.goto 4, 3) := by decide +kernel
theorem d_Mo_shortest_312 : decode b_Mo_shortest 312 = .ok (.iconst 0, 1) := by decide +kernel
theorem d_Mo_shortest_313 : decode b_Mo_shortest 313 = .ok (.istore 10, 2) := by decide +kernel
theorem d_Mo_shortest_315 : decode b_Mo_shortest 315 = .ok (.aload_n 0, 1) := by decide +kernel
theorem d_Mo_shortest_316 : decode b_Mo_shortest 316 = .ok (.iload 5, 2) := by decide +kernel
theorem d_Mo_shortest_318 : decode b_Mo_shortest 318 = .ok (.iload 10, 2) := by decide +kernel
theorem d_Mo_shortest_320 : decode b_Mo_shortest 320 = .ok (.invokevirtual 82, 3) := by decide +kernel
theorem d_Mo_shortest_323 : decode b_Mo_shortest 323 = .ok (.aload_n 0, 1) := by decide +kernel
theorem d_Mo_shortest_324 : decode b_Mo_shortest 324 = .ok (.getfield 10, 3) := by decide +kernel
theorem d_Mo_shortest_327 : decode b_Mo_shortest 327 = .ok (.getfield 36, 3) := by decide +kernel
theorem d_Mo_shortest_330 : decode b_Mo_shortest 330 = .ok (.ireturn, 1) := by decide +kernel
theorem d_Mo_shortest_331 : decode b_Mo_shortest 331 = .ok (.iinc 5 1, 3) := by decide +kernel
theorem d_Mo_shortest_334 : decode b_Mo_shortest 334 = .ok (.goto (-162), 3) := by decide +kernel
theorem d_Mo_shortest_337 : decode b_Mo_shortest 337 = .ok (.aload_n 0, 1) := by decide +kernel
theorem d_Mo_shortest_338 : decode b_Mo_shortest 338 = .ok (.getfield 10, 3) := by decide +kernel
theorem d_Mo_shortest_341 : decode b_Mo_shortest 341 = .ok (.aload_n 0, 1) := by decide +kernel
theorem d_Mo_shortest_342 : decode b_Mo_shortest 342 = .ok (.getfield 22, 3) := by decide +kernel
theorem d_Mo_shortest_345 : decode b_Mo_shortest 345 = .ok (.invokevirtual 74, 3) := by decide +kernel
theorem d_Mo_shortest_348 : decode b_Mo_shortest 348 = .ok (.aload_n 0, 1) := by decide +kernel
theorem d_Mo_shortest_349 : decode b_Mo_shortest 349 = .ok (.getfield 10, 3) := by decide +kernel
theorem d_Mo_shortest_352 : decode b_Mo_shortest 352 = .ok (.getfield 36, 3) := by decide +kernel
theorem d_Mo_shortest_355 : decode b_Mo_shortest 355 = .ok (.ireturn, 1) := by decide +kernel
theorem d_Mo_first_0 : decode b_Mo_first 0 = .ok (.aload_n 0, 1) := by decide +kernel
theorem d_Mo_first_1 : decode b_Mo_first 1 = .ok (.getfield 10, 3) := by decide +kernel
theorem d_Mo_first_4 : decode b_Mo_first 4 = .ok (.aload_n 0, 1) := by decide +kernel
theorem d_Mo_first_5 : decode b_Mo_first 5 = .ok (.getfield 22, 3) := by decide +kernel
theorem d_Mo_first_8 : decode b_Mo_first 8 = .ok (.invokevirtual 74, 3) := by decide +kernel
theorem d_Mo_first_11 : decode b_Mo_first 11 = .ok (.aload_n 0, 1) := by decide +kernel
theorem d_Mo_first_12 : decode b_Mo_first 12 = .ok (.getfield 10, 3) := by decide +kernel
theorem d_Mo_first_15 : decode b_Mo_first 15 = .ok (.iload_n 1, 1) := by decide +kernel
theorem d_Mo_first_16 : decode b_Mo_first 16 = .ok (.putfield 36, 3) := by decide +kernel
theorem d_Mo_first_19 : decode b_Mo_first 19 = .ok (.iload_n 2, 1) := by decide +kernel
theorem d_Mo_first_20 : decode b_Mo_first 20 = .ok (.ifCond .eq 10, 3) := by decide +kernel
theorem d_Mo_first_23 : decode b_Mo_first 23 = .ok (.aload_n 0, 1) := by decide +kernel
theorem d_Mo_first_24 : decode b_Mo_first 24 = .ok (.getfield 10, 3) := by decide +kernel
theorem d_Mo_first_27 : decode b_Mo_first 27 = .ok (.invokevirtual 94, 3) := by decide +kernel
theorem d_Mo_first_30 : decode b_Mo_first 30 = .ok (.aload_n 0, 1) := by decide +kernel
theorem d_Mo_first_31 : decode b_Mo_first 31 = .ok (.getfield 10, 3) := by decide +kernel
theorem d_Mo_first_34 : decode b_Mo_first 34 = .ok (.invokevirtual 43, 3) := by decide +kernel
theorem d_Mo_first_37 : decode b_Mo_first 37 = .ok (.return_, 1) := by decide +kernel
theorem d_Mo_isIn_0 : decode b_Mo_isIn 0 = .ok (.aload_n 0, 1) := by decide +kernel
theorem d_Mo_isIn_1 : decode b_Mo_isIn 1 = .ok (.getfield 10, 3) := by decide +kernel
theorem d_Mo_isIn_4 : decode b_Mo_isIn 4 = .ok (.aload_n 0, 1) := by decide +kernel
theorem d_Mo_isIn_5 : decode b_Mo_isIn 5 = .ok (.getfield 16, 3) := by decide +kernel
theorem d_Mo_isIn_8 : decode b_Mo_isIn 8 = .ok (.invokevirtual 97, 3) := by decide +kernel
theorem d_Mo_isIn_11 : decode b_Mo_isIn 11 = .ok (.istore_n 2, 1) := by decide +kernel
theorem d_Mo_isIn_12 : decode b_Mo_isIn 12 = .ok (.aload_n 0, 1) := by decide +kernel
theorem d_Mo_isIn_13 : decode b_Mo_isIn 13 = .ok (.getfield 10, 3) := by decide +kernel
theorem d_Mo_isIn_16 : decode b_Mo_isIn 16 = .ok (.aload_n 0, 1) := by decide +kernel
theorem d_Mo_isIn_17 : decode b_Mo_isIn 17 = .ok (.getfield 19, 3) := by decide +kernel
theorem d_Mo_isIn_20 : decode b_Mo_isIn 20 = .ok (.invokevirtual 97, 3) := by decide +kernel
theorem d_Mo_isIn_23 : decode b_Mo_isIn 23 = .ok (.istore_n 3, 1) := by decide +kernel
theorem d_Mo_isIn_24 : decode b_Mo_isIn 24 = .ok (.iload_n 1, 1) := by decide +kernel
theorem d_Mo_isIn_25 : decode b_Mo_isIn 25 = .ok (.ifCond .eq 19, 3) := by decide +kernel
theorem d_Mo_isIn_28 : decode b_Mo_isIn 28 = .ok (.iload_n 2, 1) := by decide +kernel
theorem d_Mo_isIn_29 : decode b_Mo_isIn 29 = .ok (.ifCond .lt 11, 3) := by decide +kernel
theorem d_Mo_isIn_32 : decode b_Mo_isIn 32 = .ok (.iload_n 3, 1) := by decide +kernel
theorem d_Mo_isIn_33 : decode b_Mo_isIn 33 = .ok (.ifCond .gt 7, 3) := by decide +kernel
theorem d_Mo_isIn_36 : decode b_Mo_isIn 36 = .ok (.iconst 1, 1) := by decide +kernel
theorem d_Mo_isIn_37 : decode b_Mo_isIn 37 = .ok (.goto 20, 3) := by decide +kernel
theorem d_Mo_isIn_40 : decode b_Mo_isIn 40 = .ok (.iconst 0, 1) := by decide +kernel
theorem d_Mo_isIn_41 : decode b_Mo_isIn 41 = .ok (.goto 16, 3) := by decide +kernel
theorem d_Mo_isIn_44 : decode b_Mo_isIn 44 = .ok (.iload_n 2, 1) := by decide +kernel
theorem d_Mo_isIn_45 : decode b_Mo_isIn 45 = .ok (.ifCond .le 11, 3) := by decide +kernel
theorem d_Mo_isIn_48 : decode b_Mo_isIn 48 = .ok (.iload_n 3, 1) := by decide +kernel
theorem d_Mo_isIn_49 : decode b_Mo_isIn 49 = .ok (.ifCond .ge 7, 3) := by decide +kernel
theorem d_Mo_isIn_52 : decode b_Mo_isIn 52 = .ok (.iconst 1, 1) := by decide +kernel
theorem d_Mo_isIn_53 : decode b_Mo_isIn 53 = .ok (.goto 4, 3) := by decide +kernel
theorem d_Mo_isIn_56 : decode b_Mo_isIn 56 = .ok (.iconst 0, 1) := by decide +kernel
theorem d_Mo_isIn_57 : decode b_Mo_isIn 57 = .ok (.ireturn, 1) := by decide +kernel
theorem d_Mo_put_0 : decode b_Mo_put 0 = .ok (.iload_n 1, 1) := by decide +kernel
theorem d_Mo_put_1 : decode b_Mo_put 1 = .ok (.aload_n 0, 1) := by decide +kernel
theorem d_Mo_put_2 : decode b_Mo_put 2 = .ok (.getfield 10, 3) := by decide +kernel
theorem d_Mo_put_5 : decode b_Mo_put 5 = .ok (.getfield 101, 3) := by decide +kernel
theorem d_Mo_put_8 : decode b_Mo_put 8 = .ok (.iadd, 1) := by decide +kernel
theorem d_Mo_put_9 : decode b_Mo_put 9 = .ok (.istore_n 3, 1) := by decide +kernel
theorem d_Mo_put_10 : decode b_Mo_put 10 = .ok (.aload_n 0, 1) := by decide +kernel
theorem d_Mo_put_11 : decode b_Mo_put 11 = .ok (.getfield 10, 3) := by decide +kernel
theorem d_Mo_put_14 : decode b_Mo_put 14 = .ok (.getfield 36, 3) := by decide +kernel
theorem d_Mo_put_17 : decode b_Mo_put 17 = .ok (.ifCond .ne 7, 3) := by decide +kernel
theorem d_Mo_put_20 : decode b_Mo_put 20 = .ok (.iconst 1, 1) := by decide +kernel
theorem d_Mo_put_21 : decode b_Mo_put 21 = .ok (.goto 4, 3) := by decide +kernel
theorem d_Mo_put_24 : decode b_Mo_put 24 = .ok (.iconst 0, 1) := by decide +kernel
theorem d_Mo_put_25 : decode b_Mo_put 25 = .ok (.istore 4, 2) := by decide +kernel
theorem d_Mo_put_27 : decode b_Mo_put 27 = .ok (.aload_n 0, 1) := by decide +kernel
theorem d_Mo_put_28 : decode b_Mo_put 28 = .ok (.iload_n 2, 1) := by decide +kernel
theorem d_Mo_put_29 : decode b_Mo_put 29 = .ok (.ifCond .lt 53, 3) := by decide +kernel
theorem d_Mo_put_32 : decode b_Mo_put 32 = .ok (.iload_n 2, 1) := by decide +kernel
theorem d_Mo_put_33 : decode b_Mo_put 33 = .ok (.bipush 9, 2) := by decide +kernel
theorem d_Mo_put_35 : decode b_Mo_put 35 = .ok (.if_icmp .gt 47, 3) := by decide +kernel
theorem d_Mo_put_38 : decode b_Mo_put 38 = .ok (.iload_n 1, 1) := by decide +kernel
theorem d_Mo_put_39 : decode b_Mo_put 39 = .ok (.sipush (-400), 3) := by decide +kernel
theorem d_Mo_put_42 : decode b_Mo_put 42 = .ok (.if_icmp .lt 40, 3) := by decide +kernel
theorem d_Mo_put_45 : decode b_Mo_put 45 = .ok (.iload_n 1, 1) := by decide +kernel
theorem d_Mo_put_46 : decode b_Mo_put 46 = .ok (.sipush 400, 3) := by decide +kernel
theorem d_Mo_put_49 : decode b_Mo_put 49 = .ok (.if_icmp .gt 33, 3) := by decide +kernel
theorem d_Mo_put_52 : decode b_Mo_put 52 = .ok (.iload 4, 2) := by decide +kernel
theorem d_Mo_put_54 : decode b_Mo_put 54 = .ok (.ifCond .ne 21, 3) := by decide +kernel
theorem d_Mo_put_57 : decode b_Mo_put 57 = .ok (.iload_n 3, 1) := by decide +kernel
theorem d_Mo_put_58 : decode b_Mo_put 58 = .ok (.aload_n 0, 1) := by decide +kernel
theorem d_Mo_put_59 : decode b_Mo_put 59 = .ok (.getfield 10, 3) := by decide +kernel
theorem d_Mo_put_62 : decode b_Mo_put 62 = .ok (.getfield 36, 3) := by decide +kernel
theorem d_Mo_put_65 : decode b_Mo_put 65 = .ok (.if_icmp .lt 17, 3) := by decide +kernel
theorem d_Mo_put_68 : decode b_Mo_put 68 = .ok (.iload_n 3, 1) := by decide +kernel
theorem d_Mo_put_69 : decode b_Mo_put 69 = .ok (.sipush 1200, 3) := by decide +kernel
theorem d_Mo_put_72 : decode b_Mo_put 72 = .ok (.if_icmp .ge 10, 3) := by decide +kernel
theorem d_Mo_put_75 : decode b_Mo_put 75 = .ok (.aload_n 0, 1) := by decide +kernel
theorem d_Mo_put_76 : decode b_Mo_put 76 = .ok (.getfield 39, 3) := by decide +kernel
theorem d_Mo_put_79 : decode b_Mo_put 79 = .ok (.ifCond .eq 7, 3) := by decide +kernel
theorem d_Mo_put_82 : decode b_Mo_put 82 = .ok (.iconst 1, 1) := by decide +kernel
theorem d_Mo_put_83 : decode b_Mo_put 83 = .ok (.goto 4, 3) := by decide +kernel
theorem d_Mo_put_86 : decode b_Mo_put 86 = .ok (.iconst 0, 1) := by decide +kernel
theorem d_Mo_put_87 : decode b_Mo_put 87 = .ok (.putfield 32, 3) := by decide +kernel
theorem d_Mo_put_90 : decode b_Mo_put 90 = .ok (.aload_n 0, 1) := by decide +kernel
theorem d_Mo_put_91 : decode b_Mo_put 91 = .ok (.getfield 32, 3) := by decide +kernel
theorem d_Mo_put_94 : decode b_Mo_put 94 = .ok (.ifCond .le 5, 3) := by decide +kernel
theorem d_Mo_put_97 : decode b_Mo_put 97 = .ok (.iconst 0, 1) := by decide +kernel
theorem d_Mo_put_98 : decode b_Mo_put 98 = .ok (.ireturn, 1) := by decide +kernel
theorem d_Mo_put_99 : decode b_Mo_put 99 = .ok (.iload_n 2, 1) := by decide +kernel
theorem d_Mo_put_100 : decode b_Mo_put 100 = .ok (.ifCond .ne 11, 3) := by decide +kernel
theorem d_Mo_put_103 : decode b_Mo_put 103 = .ok (.aload_n 0, 1) := by decide +kernel
theorem d_Mo_put_104 : decode b_Mo_put 104 = .ok (.getfield 10, 3) := by decide +kernel
theorem d_Mo_put_107 : decode b_Mo_put 107 = .ok (.getfield 36, 3) := by decide +kernel
theorem d_Mo_put_110 : decode b_Mo_put 110 = .ok (.ireturn, 1) := by decide +kernel
theorem d_Mo_put_111 : decode b_Mo_put 111 = .ok (.iload 4, 2) := by decide +kernel
theorem d_Mo_put_113 : decode b_Mo_put 113 = .ok (.ifCond .eq 14, 3) := by decide +kernel
theorem d_Mo_put_116 : decode b_Mo_put 116 = .ok (.aload_n 0, 1) := by decide +kernel
theorem d_Mo_put_117 : decode b_Mo_put 117 = .ok (.getfield 10, 3) := by decide +kernel
theorem d_Mo_put_120 : decode b_Mo_put 120 = .ok (.iload_n 1, 1) := by decide +kernel
theorem d_Mo_put_121 : decode b_Mo_put 121 = .ok (.ineg, 1) := by decide +kernel
theorem d_Mo_put_122 : decode b_Mo_put 122 = .ok (.putfield 101, 3) := by decide +kernel
theorem d_Mo_put_125 : decode b_Mo_put 125 = .ok (.iconst 0, 1) := by decide +kernel
theorem d_Mo_put_126 : decode b_Mo_put 126 = .ok (.istore_n 3, 1) := by decide +kernel
theorem d_Mo_put_127 : decode b_Mo_put 127 = .ok (.aload_n 0, 1) := by decide +kernel
theorem d_Mo_put_128 : decode b_Mo_put 128 = .ok (.getfield 10, 3) := by decide +kernel
theorem d_Mo_put_131 : decode b_Mo_put 131 = .ok (.getfield 36, 3) := by decide +kernel
theorem d_Mo_put_134 : decode b_Mo_put 134 = .ok (.istore 5, 2) := by decide +kernel
theorem d_Mo_put_136 : decode b_Mo_put 136 = .ok (.iload 5, 2) := by decide +kernel
theorem d_Mo_put_138 : decode b_Mo_put 138 = .ok (.iload_n 3, 1) := by decide +kernel
theorem d_Mo_put_139 : decode b_Mo_put 139 = .ok (.if_icmp .ge 20, 3) := by decide +kernel
theorem d_Mo_put_142 : decode b_Mo_put 142 = .ok (.aload_n 0, 1) := by decide +kernel
theorem d_Mo_put_143 : decode b_Mo_put 143 = .ok (.getfield 10, 3) := by decide +kernel
theorem d_Mo_put_146 : decode b_Mo_put 146 = .ok (.getfield 90, 3) := by decide +kernel
theorem d_Mo_put_149 : decode b_Mo_put 149 = .ok (.iload 5, 2) := by decide +kernel
theorem d_Mo_put_151 : decode b_Mo_put 151 = .ok (.iconst 0, 1) := by decide +kernel
theorem d_Mo_put_152 : decode b_Mo_put 152 = .ok (.bastore, 1) := by decide +kernel
theorem d_Mo_put_153 : decode b_Mo_put 153 = .ok (.iinc 5 1, 3) := by decide +kernel
theorem d_Mo_put_156 : decode b_Mo_put 156 = .ok (.goto (-20), 3) := by decide +kernel
theorem d_Mo_put_159 : decode b_Mo_put 159 = .ok (.aload_n 0, 1) := by decide +kernel
theorem d_Mo_put_160 : decode b_Mo_put 160 = .ok (.getfield 10, 3) := by decide +kernel
theorem d_Mo_put_163 : decode b_Mo_put 163 = .ok (.getfield 90, 3) := by decide +kernel
theorem d_Mo_put_166 : decode b_Mo_put 166 = .ok (.iload_n 3, 1) := by decide +kernel
theorem d_Mo_put_167 : decode b_Mo_put 167 = .ok (.iload_n 2, 1) := by decide +kernel
theorem d_Mo_put_168 : decode b_Mo_put 168 = .ok (.i2b, 1) := by decide +kernel
theorem d_Mo_put_169 : decode b_Mo_put 169 = .ok (.bastore, 1) := by decide +kernel
theorem d_Mo_put_170 : decode b_Mo_put 170 = .ok (.aload_n 0, 1) := by decide +kernel
theorem d_Mo_put_171 : decode b_Mo_put 171 = .ok (.getfield 10, 3) := by decide +kernel
theorem d_Mo_put_174 : decode b_Mo_put 174 = .ok (.iload_n 3, 1) := by decide +kernel
theorem d_Mo_put_175 : decode b_Mo_put 175 = .ok (.iconst 1, 1) := by decide +kernel
theorem d_Mo_put_176 : decode b_Mo_put 176 = .ok (.iadd, 1) := by decide +kernel
theorem d_Mo_put_177 : decode b_Mo_put 177 = .ok (.putfield 36, 3) := by decide +kernel
theorem d_Mo_put_180 : decode b_Mo_put 180 = .ok (.aload_n 0, 1) := by decide +kernel
theorem d_Mo_put_181 : decode b_Mo_put 181 = .ok (.getfield 10, 3) := by decide +kernel
theorem d_Mo_put_184 : decode b_Mo_put 184 = .ok (.getfield 36, 3) := by decide +kernel
theorem d_Mo_put_187 : decode b_Mo_put 187 = .ok (.ireturn, 1) := by decide +kernel
theorem d_Mo_shift_0 : decode b_Mo_shift 0 = .ok (.aload_n 0, 1) := by decide +kernel
theorem d_Mo_shift_1 : decode b_Mo_shift 1 = .ok (.iload_n 1, 1) := by decide +kernel
theorem d_Mo_shift_2 : decode b_Mo_shift 2 = .ok (.sipush (-2200), 3) := by decide +kernel
theorem d_Mo_shift_5 : decode b_Mo_shift 5 = .ok (.if_icmp .lt 10, 3) := by decide +kernel
theorem d_Mo_shift_8 : decode b_Mo_shift 8 = .ok (.iload_n 1, 1) := by decide +kernel
theorem d_Mo_shift_9 : decode b_Mo_shift 9 = .ok (.sipush 2200, 3) := by decide +kernel
theorem d_Mo_shift_12 : decode b_Mo_shift 12 = .ok (.if_icmp .le 7, 3) := by decide +kernel
theorem d_Mo_shift_15 : decode b_Mo_shift 15 = .ok (.iconst 1, 1) := by decide +kernel
theorem d_Mo_shift_16 : decode b_Mo_shift 16 = .ok (.goto 4, 3) := by decide +kernel
theorem d_Mo_shift_19 : decode b_Mo_shift 19 = .ok (.iconst 0, 1) := by decide +kernel
theorem d_Mo_shift_20 : decode b_Mo_shift 20 = .ok (.putfield 32, 3) := by decide +kernel
theorem d_Mo_shift_23 : decode b_Mo_shift 23 = .ok (.aload_n 0, 1) := by decide +kernel
theorem d_Mo_shift_24 : decode b_Mo_shift 24 = .ok (.getfield 32, 3) := by decide +kernel
theorem d_Mo_shift_27 : decode b_Mo_shift 27 = .ok (.ifCond .le 5, 3) := by decide +kernel
theorem d_Mo_shift_30 : decode b_Mo_shift 30 = .ok (.iconst 0, 1) := by decide +kernel
theorem d_Mo_shift_31 : decode b_Mo_shift 31 = .ok (.ireturn, 1) := by decide +kernel
theorem d_Mo_shift_32 : decode b_Mo_shift 32 = .ok (.aload_n 0, 1) := by decide +kernel
theorem d_Mo_shift_33 : decode b_Mo_shift 33 = .ok (.getfield 10, 3) := by decide +kernel
theorem d_Mo_shift_36 : decode b_Mo_shift 36 = .ok (.iload_n 1, 1) := by decide +kernel
theorem d_Mo_shift_37 : decode b_Mo_shift 37 = .ok (.invokevirtual 70, 3) := by decide +kernel
theorem d_Mo_shift_40 : decode b_Mo_shift 40 = .ok (.aload_n 0, 1) := by decide +kernel
theorem d_Mo_shift_41 : decode b_Mo_shift 41 = .ok (.invokevirtual 104, 3) := by decide +kernel
theorem d_Mo_shift_44 : decode b_Mo_shift 44 = .ok (.ireturn, 1) := by decide +kernel
theorem d_Mo_kept_0 : decode b_Mo_kept 0 = .ok (.aload_n 0, 1) := by decide +kernel
theorem d_Mo_kept_1 : decode b_Mo_kept 1 = .ok (.getfield 10, 3) := by decide +kernel
theorem d_Mo_kept_4 : decode b_Mo_kept 4 = .ok (.getfield 36, 3) := by decide +kernel
theorem d_Mo_kept_7 : decode b_Mo_kept 7 = .ok (.sipush 1200, 3) := by decide +kernel
theorem d_Mo_kept_10 : decode b_Mo_kept 10 = .ok (.if_icmp .le 25, 3) := by decide +kernel
theorem d_Mo_kept_13 : decode b_Mo_kept 13 = .ok (.aload_n 0, 1) := by decide +kernel
theorem d_Mo_kept_14 : decode b_Mo_kept 14 = .ok (.getfield 10, 3) := by decide +kernel
theorem d_Mo_kept_17 : decode b_Mo_kept 17 = .ok (.sipush 1200, 3) := by decide +kernel
theorem d_Mo_kept_20 : decode b_Mo_kept 20 = .ok (.putfield 36, 3) := by decide +kernel
theorem d_Mo_kept_23 : decode b_Mo_kept 23 = .ok (.aload_n 0, 1) := by decide +kernel
theorem d_Mo_kept_24 : decode b_Mo_kept 24 = .ok (.iconst 1, 1) := by decide +kernel
theorem d_Mo_kept_25 : decode b_Mo_kept 25 = .ok (.putfield 39, 3) := by decide +kernel
theorem d_Mo_kept_28 : decode b_Mo_kept 28 = .ok (.aload_n 0, 1) := by decide +kernel
theorem d_Mo_kept_29 : decode b_Mo_kept 29 = .ok (.getfield 10, 3) := by decide +kernel
theorem d_Mo_kept_32 : decode b_Mo_kept 32 = .ok (.invokevirtual 43, 3) := by decide +kernel
theorem d_Mo_kept_35 : decode b_Mo_kept 35 = .ok (.aload_n 0, 1) := by decide +kernel
theorem d_Mo_kept_36 : decode b_Mo_kept 36 = .ok (.getfield 10, 3) := by decide +kernel
theorem d_Mo_kept_39 : decode b_Mo_kept 39 = .ok (.getfield 36, 3) := by decide +kernel
theorem d_Mo_kept_42 : decode b_Mo_kept 42 = .ok (.ireturn, 1) := by decide +kernel
theorem d_Mo_move_0 : decode b_Mo_move 0 = .ok (.aload_n 0, 1) := by decide +kernel
theorem d_Mo_move_1 : decode b_Mo_move 1 = .ok (.getfield 10, 3) := by decide +kernel
theorem d_Mo_move_4 : decode b_Mo_move 4 = .ok (.getfield 36, 3) := by decide +kernel
theorem d_Mo_move_7 : decode b_Mo_move 7 = .ok (.ifCond .ne 7, 3) := by decide +kernel
theorem d_Mo_move_10 : decode b_Mo_move 10 = .ok (.iconst 1, 1) := by decide +kernel
theorem d_Mo_move_11 : decode b_Mo_move 11 = .ok (.goto 4, 3) := by decide +kernel
theorem d_Mo_move_14 : decode b_Mo_move 14 = .ok (.iconst 0, 1) := by decide +kernel
theorem d_Mo_move_15 : decode b_Mo_move 15 = .ok (.istore_n 2, 1) := by decide +kernel
theorem d_Mo_move_16 : decode b_Mo_move 16 = .ok (.iload_n 2, 1) := by decide +kernel
theorem d_Mo_move_17 : decode b_Mo_move 17 = .ok (.ifCond .eq 7, 3) := by decide +kernel
theorem d_Mo_move_20 : decode b_Mo_move 20 = .ok (.iconst 0, 1) := by decide +kernel
theorem d_Mo_move_21 : decode b_Mo_move 21 = .ok (.goto 12, 3) := by decide +kernel
theorem d_Mo_move_24 : decode b_Mo_move 24 = .ok (.aload_n 0, 1) := by decide +kernel
theorem d_Mo_move_25 : decode b_Mo_move 25 = .ok (.getfield 10, 3) := by decide +kernel
theorem d_Mo_move_28 : decode b_Mo_move 28 = .ok (.getfield 101, 3) := by decide +kernel
theorem d_Mo_move_31 : decode b_Mo_move 31 = .ok (.iload_n 1, 1) := by decide +kernel
theorem d_Mo_move_32 : decode b_Mo_move 32 = .ok (.iadd, 1) := by decide +kernel
theorem d_Mo_move_33 : decode b_Mo_move 33 = .ok (.istore_n 3, 1) := by decide +kernel
theorem d_Mo_move_34 : decode b_Mo_move 34 = .ok (.aload_n 0, 1) := by decide +kernel
theorem d_Mo_move_35 : decode b_Mo_move 35 = .ok (.iload_n 1, 1) := by decide +kernel
theorem d_Mo_move_36 : decode b_Mo_move 36 = .ok (.sipush (-5000), 3) := by decide +kernel
theorem d_Mo_move_39 : decode b_Mo_move 39 = .ok (.if_icmp .lt 24, 3) := by decide +kernel
theorem d_Mo_move_42 : decode b_Mo_move 42 = .ok (.iload_n 1, 1) := by decide +kernel
theorem d_Mo_move_43 : decode b_Mo_move 43 = .ok (.sipush 5000, 3) := by decide +kernel
theorem d_Mo_move_46 : decode b_Mo_move 46 = .ok (.if_icmp .gt 17, 3) := by decide +kernel
theorem d_Mo_move_49 : decode b_Mo_move 49 = .ok (.iload_n 3, 1) := by decide +kernel
theorem d_Mo_move_50 : decode b_Mo_move 50 = .ok (.sipush (-10000), 3) := by decide +kernel
theorem d_Mo_move_53 : decode b_Mo_move 53 = .ok (.if_icmp .lt 10, 3) := by decide +kernel
theorem d_Mo_move_56 : decode b_Mo_move 56 = .ok (.iload_n 3, 1) := by decide +kernel
theorem d_Mo_move_57 : decode b_Mo_move 57 = .ok (.sipush 10000, 3) := by decide +kernel
theorem d_Mo_move_60 : decode b_Mo_move 60 = .ok (.if_icmp .le 7, 3) := by decide +kernel
theorem d_Mo_move_63 : decode b_Mo_move 63 = .ok (.iconst 1, 1) := by decide +kernel
theorem d_Mo_move_64 : decode b_Mo_move 64 = .ok (.goto 4, 3) := by decide +kernel
theorem d_Mo_move_67 : decode b_Mo_move 67 = .ok (.iconst 0, 1) := by decide +kernel
theorem d_Mo_move_68 : decode b_Mo_move 68 = .ok (.putfield 32, 3) := by decide +kernel
theorem d_Mo_move_71 : decode b_Mo_move 71 = .ok (.aload_n 0, 1) := by decide +kernel
theorem d_Mo_move_72 : decode b_Mo_move 72 = .ok (.getfield 32, 3) := by decide +kernel
theorem d_Mo_move_75 : decode b_Mo_move 75 = .ok (.ifCond .le 5, 3) := by decide +kernel
theorem d_Mo_move_78 : decode b_Mo_move 78 = .ok (.iconst 0, 1) := by decide +kernel
theorem d_Mo_move_79 : decode b_Mo_move 79 = .ok (.ireturn, 1) := by decide +kernel
theorem d_Mo_move_80 : decode b_Mo_move 80 = .ok (.aload_n 0, 1) := by decide +kernel
theorem d_Mo_move_81 : decode b_Mo_move 81 = .ok (.getfield 10, 3) := by decide +kernel
theorem d_Mo_move_84 : decode b_Mo_move 84 = .ok (.iload_n 3, 1) := by decide +kernel
theorem d_Mo_move_85 : decode b_Mo_move 85 = .ok (.putfield 101, 3) := by decide +kernel
theorem d_Mo_move_88 : decode b_Mo_move 88 = .ok (.iload_n 3, 1) := by decide +kernel
theorem d_Mo_move_89 : decode b_Mo_move 89 = .ok (.ireturn, 1) := by decide +kernel
theorem d_Mo_round_0 : decode b_Mo_round 0 = .ok (.aload_n 0, 1) := by decide +kernel
theorem d_Mo_round_1 : decode b_Mo_round 1 = .ok (.iload_n 1, 1) := by decide +kernel
theorem d_Mo_round_2 : decode b_Mo_round 2 = .ok (.iconst 1, 1) := by decide +kernel
theorem d_Mo_round_3 : decode b_Mo_round 3 = .ok (.invokevirtual 108, 3) := by decide +kernel
theorem d_Mo_round_6 : decode b_Mo_round 6 = .ok (.ireturn, 1) := by decide +kernel
theorem d_Mo_ended_0 : decode b_Mo_ended 0 = .ok (.aload_n 0, 1) := by decide +kernel
theorem d_Mo_ended_1 : decode b_Mo_ended 1 = .ok (.iload_n 1, 1) := by decide +kernel
theorem d_Mo_ended_2 : decode b_Mo_ended 2 = .ok (.sipush (-2000), 3) := by decide +kernel
theorem d_Mo_ended_5 : decode b_Mo_ended 5 = .ok (.if_icmp .lt 10, 3) := by decide +kernel
theorem d_Mo_ended_8 : decode b_Mo_ended 8 = .ok (.iload_n 1, 1) := by decide +kernel
theorem d_Mo_ended_9 : decode b_Mo_ended 9 = .ok (.sipush 2000, 3) := by decide +kernel
theorem d_Mo_ended_12 : decode b_Mo_ended 12 = .ok (.if_icmp .le 7, 3) := by decide +kernel
theorem d_Mo_ended_15 : decode b_Mo_ended 15 = .ok (.iconst 1, 1) := by decide +kernel
theorem d_Mo_ended_16 : decode b_Mo_ended 16 = .ok (.goto 4, 3) := by decide +kernel
theorem d_Mo_ended_19 : decode b_Mo_ended 19 = .ok (.iconst 0, 1) := by decide +kernel
theorem d_Mo_ended_20 : decode b_Mo_ended 20 = .ok (.putfield 32, 3) := by decide +kernel
theorem d_Mo_ended_23 : decode b_Mo_ended 23 = .ok (.aload_n 0, 1) := by decide +kernel
theorem d_Mo_ended_24 : decode b_Mo_ended 24 = .ok (.getfield 32, 3) := by decide +kernel
theorem d_Mo_ended_27 : decode b_Mo_ended 27 = .ok (.ifCond .le 5, 3) := by decide +kernel
theorem d_Mo_ended_30 : decode b_Mo_ended 30 = .ok (.iconst 0, 1) := by decide +kernel
theorem d_Mo_ended_31 : decode b_Mo_ended 31 = .ok (.ireturn, 1) := by decide +kernel
theorem d_Mo_ended_32 : decode b_Mo_ended 32 = .ok (.aload_n 0, 1) := by decide +kernel
theorem d_Mo_ended_33 : decode b_Mo_ended 33 = .ok (.getfield 10, 3) := by decide +kernel
theorem d_Mo_ended_36 : decode b_Mo_ended 36 = .ok (.getfield 101, 3) := by decide +kernel
theorem d_Mo_ended_39 : decode b_Mo_ended 39 = .ok (.iload_n 1, 1) := by decide +kernel
theorem d_Mo_ended_40 : decode b_Mo_ended 40 = .ok (.iadd, 1) := by decide +kernel
theorem d_Mo_ended_41 : decode b_Mo_ended 41 = .ok (.istore_n 3, 1) := by decide +kernel
theorem d_Mo_ended_42 : decode b_Mo_ended 42 = .ok (.aload_n 0, 1) := by decide +kernel
theorem d_Mo_ended_43 : decode b_Mo_ended 43 = .ok (.iconst 0, 1) := by decide +kernel
theorem d_Mo_ended_44 : decode b_Mo_ended 44 = .ok (.putfield 39, 3) := by decide +kernel
theorem d_Mo_ended_47 : decode b_Mo_ended 47 = .ok (.iload_n 3, 1) := by decide +kernel
theorem d_Mo_ended_48 : decode b_Mo_ended 48 = .ok (.aload_n 0, 1) := by decide +kernel
theorem d_Mo_ended_49 : decode b_Mo_ended 49 = .ok (.getfield 10, 3) := by decide +kernel
theorem d_Mo_ended_52 : decode b_Mo_ended 52 = .ok (.getfield 36, 3) := by decide +kernel
theorem d_Mo_ended_55 : decode b_Mo_ended 55 = .ok (.if_icmp .lt 11, 3) := by decide +kernel
theorem d_Mo_ended_58 : decode b_Mo_ended 58 = .ok (.aload_n 0, 1) := by decide +kernel
theorem d_Mo_ended_59 : decode b_Mo_ended 59 = .ok (.getfield 10, 3) := by decide +kernel
theorem d_Mo_ended_62 : decode b_Mo_ended 62 = .ok (.getfield 36, 3) := by decide +kernel
theorem d_Mo_ended_65 : decode b_Mo_ended 65 = .ok (.ireturn, 1) := by decide +kernel
theorem d_Mo_ended_66 : decode b_Mo_ended 66 = .ok (.iload_n 2, 1) := by decide +kernel
theorem d_Mo_ended_67 : decode b_Mo_ended 67 = .ok (.ifCond .eq 24, 3) := by decide +kernel
theorem d_Mo_ended_70 : decode b_Mo_ended 70 = .ok (.iload_n 3, 1) := by decide +kernel
theorem d_Mo_ended_71 : decode b_Mo_ended 71 = .ok (.ifCond .lt 20, 3) := by decide +kernel
theorem d_Mo_ended_74 : decode b_Mo_ended 74 = .ok (.aload_n 0, 1) := by decide +kernel
theorem d_Mo_ended_75 : decode b_Mo_ended 75 = .ok (.getfield 10, 3) := by decide +kernel
theorem d_Mo_ended_78 : decode b_Mo_ended 78 = .ok (.getfield 90, 3) := by decide +kernel
theorem d_Mo_ended_81 : decode b_Mo_ended 81 = .ok (.iload_n 3, 1) := by decide +kernel
theorem d_Mo_ended_82 : decode b_Mo_ended 82 = .ok (.baload, 1) := by decide +kernel
theorem d_Mo_ended_83 : decode b_Mo_ended 83 = .ok (.iconst 5, 1) := by decide +kernel
theorem d_Mo_ended_84 : decode b_Mo_ended 84 = .ok (.if_icmp .lt 7, 3) := by decide +kernel
theorem d_Mo_ended_87 : decode b_Mo_ended 87 = .ok (.iconst 1, 1) := by decide +kernel
theorem d_Mo_ended_88 : decode b_Mo_ended 88 = .ok (.goto 4, 3) := by decide +kernel
theorem d_Mo_ended_91 : decode b_Mo_ended 91 = .ok (.iconst 0, 1) := by decide +kernel
theorem d_Mo_ended_92 : decode b_Mo_ended 92 = .ok (.istore 4, 2) := by decide +kernel
theorem d_Mo_ended_94 : decode b_Mo_ended 94 = .ok (.aload_n 0, 1) := by decide +kernel
theorem d_Mo_ended_95 : decode b_Mo_ended 95 = .ok (.getfield 10, 3) := by decide +kernel
theorem d_Mo_ended_98 : decode b_Mo_ended 98 = .ok (.iload_n 3, 1) := by decide +kernel
theorem d_Mo_ended_99 : decode b_Mo_ended 99 = .ok (.iconst 0, 1) := by decide +kernel
theorem d_Mo_ended_100 : decode b_Mo_ended 100 = .ok (.invokestatic 54, 3) := by decide +kernel
theorem d_Mo_ended_103 : decode b_Mo_ended 103 = .ok (.putfield 36, 3) := by decide +kernel
theorem d_Mo_ended_106 : decode b_Mo_ended 106 = .ok (.iload 4, 2) := by decide +kernel
theorem d_Mo_ended_108 : decode b_Mo_ended 108 = .ok (.ifCond .eq 10, 3) := by decide +kernel
theorem d_Mo_ended_111 : decode b_Mo_ended 111 = .ok (.aload_n 0, 1) := by decide +kernel
theorem d_Mo_ended_112 : decode b_Mo_ended 112 = .ok (.getfield 10, 3) := by decide +kernel
theorem d_Mo_ended_115 : decode b_Mo_ended 115 = .ok (.invokevirtual 94, 3) := by decide +kernel
theorem d_Mo_ended_118 : decode b_Mo_ended 118 = .ok (.aload_n 0, 1) := by decide +kernel
theorem d_Mo_ended_119 : decode b_Mo_ended 119 = .ok (.getfield 10, 3) := by decide +kernel
theorem d_Mo_ended_122 : decode b_Mo_ended 122 = .ok (.invokevirtual 43, 3) := by decide +kernel
theorem d_Mo_ended_125 : decode b_Mo_ended 125 = .ok (.aload_n 0, 1) := by decide +kernel
theorem d_Mo_ended_126 : decode b_Mo_ended 126 = .ok (.getfield 10, 3) := by decide +kernel
theorem d_Mo_ended_129 : decode b_Mo_ended 129 = .ok (.getfield 36, 3) := by decide +kernel
theorem d_Mo_ended_132 : decode b_Mo_ended 132 = .ok (.ireturn, 1) := by decide +kernel
theorem d_Mo_cut_0 : decode b_Mo_cut 0 = .ok (.aload_n 0, 1) := by decide +kernel
theorem d_Mo_cut_1 : decode b_Mo_cut 1 = .ok (.iload_n 1, 1) := by decide +kernel
theorem d_Mo_cut_2 : decode b_Mo_cut 2 = .ok (.iconst 0, 1) := by decide +kernel
theorem d_Mo_cut_3 : decode b_Mo_cut 3 = .ok (.invokevirtual 108, 3) := by decide +kernel
theorem d_Mo_cut_6 : decode b_Mo_cut 6 = .ok (.ireturn, 1) := by decide +kernel
theorem d_Mo_digit_0 : decode b_Mo_digit 0 = .ok (.aload_n 0, 1) := by decide +kernel
theorem d_Mo_digit_1 : decode b_Mo_digit 1 = .ok (.iconst 0, 1) := by decide +kernel
theorem d_Mo_digit_2 : decode b_Mo_digit 2 = .ok (.putfield 32, 3) := by decide +kernel
theorem d_Mo_digit_5 : decode b_Mo_digit 5 = .ok (.iload_n 1, 1) := by decide +kernel
theorem d_Mo_digit_6 : decode b_Mo_digit 6 = .ok (.i2l, 1) := by decide +kernel
theorem d_Mo_digit_7 : decode b_Mo_digit 7 = .ok (.aload_n 0, 1) := by decide +kernel
theorem d_Mo_digit_8 : decode b_Mo_digit 8 = .ok (.getfield 10, 3) := by decide +kernel
theorem d_Mo_digit_11 : decode b_Mo_digit 11 = .ok (.getfield 101, 3) := by decide +kernel
theorem d_Mo_digit_14 : decode b_Mo_digit 14 = .ok (.i2l, 1) := by decide +kernel
theorem d_Mo_digit_15 : decode b_Mo_digit 15 = .ok (.ladd, 1) := by decide +kernel
theorem d_Mo_digit_16 : decode b_Mo_digit 16 = .ok (.lstore_n 2, 1) := by decide +kernel
theorem d_Mo_digit_17 : decode b_Mo_digit 17 = .ok (.lload_n 2, 1) := by decide +kernel
theorem d_Mo_digit_18 : decode b_Mo_digit 18 = .ok (.lconst 0, 1) := by decide +kernel
theorem d_Mo_digit_19 : decode b_Mo_digit 19 = .ok (.lcmp, 1) := by decide +kernel
theorem d_Mo_digit_20 : decode b_Mo_digit 20 = .ok (.ifCond .lt 16, 3) := by decide +kernel
theorem d_Mo_digit_23 : decode b_Mo_digit 23 = .ok (.lload_n 2, 1) := by decide +kernel
theorem d_Mo_digit_24 : decode b_Mo_digit 24 = .ok (.aload_n 0, 1) := by decide +kernel
theorem d_Mo_digit_25 : decode b_Mo_digit 25 = .ok (.getfield 10, 3) := by decide +kernel
theorem d_Mo_digit_28 : decode b_Mo_digit 28 = .ok (.getfield 36, 3) := by decide +kernel
theorem d_Mo_digit_31 : decode b_Mo_digit 31 = .ok (.i2l, 1) := by decide +kernel
theorem d_Mo_digit_32 : decode b_Mo_digit 32 = .ok (.lcmp, 1) := by decide +kernel
theorem d_Mo_digit_33 : decode b_Mo_digit 33 = .ok (.ifCond .lt 7, 3) := by decide +kernel
theorem d_Mo_digit_36 : decode b_Mo_digit 36 = .ok (.iconst 0, 1) := by decide +kernel
theorem d_Mo_digit_37 : decode b_Mo_digit 37 = .ok (.goto 13, 3) := by decide +kernel
theorem d_Mo_digit_40 : decode b_Mo_digit 40 = .ok (.aload_n 0, 1) := by decide +kernel
theorem d_Mo_digit_41 : decode b_Mo_digit 41 = .ok (.getfield 10, 3) := by decide +kernel
theorem d_Mo_digit_44 : decode b_Mo_digit 44 = .ok (.getfield 90, 3) := by decide +kernel
theorem d_Mo_digit_47 : decode b_Mo_digit 47 = .ok (.lload_n 2, 1) := by decide +kernel
theorem d_Mo_digit_48 : decode b_Mo_digit 48 = .ok (.l2i, 1) := by decide +kernel
theorem d_Mo_digit_49 : decode b_Mo_digit 49 = .ok (.baload, 1) := by decide +kernel
theorem d_Mo_digit_50 : decode b_Mo_digit 50 = .ok (.ireturn, 1) := by decide +kernel
theorem d_Mo_told_0 : decode b_Mo_told 0 = .ok (.aload_n 0, 1) := by decide +kernel
theorem d_Mo_told_1 : decode b_Mo_told 1 = .ok (.iload_n 1, 1) := by decide +kernel
theorem d_Mo_told_2 : decode b_Mo_told 2 = .ok (.ifCond .lt 8, 3) := by decide +kernel
theorem d_Mo_told_5 : decode b_Mo_told 5 = .ok (.iload_n 1, 1) := by decide +kernel
theorem d_Mo_told_6 : decode b_Mo_told 6 = .ok (.iconst 2, 1) := by decide +kernel
theorem d_Mo_told_7 : decode b_Mo_told 7 = .ok (.if_icmp .le 7, 3) := by decide +kernel
theorem d_Mo_told_10 : decode b_Mo_told 10 = .ok (.iconst 1, 1) := by decide +kernel
theorem d_Mo_told_11 : decode b_Mo_told 11 = .ok (.goto 4, 3) := by decide +kernel
theorem d_Mo_told_14 : decode b_Mo_told 14 = .ok (.iconst 0, 1) := by decide +kernel
theorem d_Mo_told_15 : decode b_Mo_told 15 = .ok (.putfield 32, 3) := by decide +kernel
theorem d_Mo_told_18 : decode b_Mo_told 18 = .ok (.aload_n 0, 1) := by decide +kernel
theorem d_Mo_told_19 : decode b_Mo_told 19 = .ok (.getfield 32, 3) := by decide +kernel
theorem d_Mo_told_22 : decode b_Mo_told 22 = .ok (.ifCond .le 5, 3) := by decide +kernel
theorem d_Mo_told_25 : decode b_Mo_told 25 = .ok (.iconst 0, 1) := by decide +kernel
theorem d_Mo_told_26 : decode b_Mo_told 26 = .ok (.ireturn, 1) := by decide +kernel
theorem d_Mo_told_27 : decode b_Mo_told 27 = .ok (.iload_n 1, 1) := by decide +kernel
theorem d_Mo_told_28 : decode b_Mo_told 28 = .ok (.ifCond .ne 13, 3) := by decide +kernel
theorem d_Mo_told_31 : decode b_Mo_told 31 = .ok (.aload_n 0, 1) := by decide +kernel
theorem d_Mo_told_32 : decode b_Mo_told 32 = .ok (.getfield 10, 3) := by decide +kernel
theorem d_Mo_told_35 : decode b_Mo_told 35 = .ok (.getfield 36, 3) := by decide +kernel
theorem d_Mo_told_38 : decode b_Mo_told 38 = .ok (.goto 30, 3) := by decide +kernel
theorem d_Mo_told_41 : decode b_Mo_told 41 = .ok (.iload_n 1, 1) := by decide +kernel
theorem d_Mo_told_42 : decode b_Mo_told 42 = .ok (.iconst 1, 1) := by decide +kernel
theorem d_Mo_told_43 : decode b_Mo_told 43 = .ok (.if_icmp .ne 13, 3) := by decide +kernel
theorem d_Mo_told_46 : decode b_Mo_told 46 = .ok (.aload_n 0, 1) := by decide +kernel
theorem d_Mo_told_47 : decode b_Mo_told 47 = .ok (.getfield 10, 3) := by decide +kernel
theorem d_Mo_told_50 : decode b_Mo_told 50 = .ok (.getfield 101, 3) := by decide +kernel
theorem d_Mo_told_53 : decode b_Mo_told 53 = .ok (.goto 15, 3) := by decide +kernel
theorem d_Mo_told_56 : decode b_Mo_told 56 = .ok (.aload_n 0, 1) := by decide +kernel
theorem d_Mo_told_57 : decode b_Mo_told 57 = .ok (.getfield 39, 3) := by decide +kernel
theorem d_Mo_told_60 : decode b_Mo_told 60 = .ok (.ifCond .eq 7, 3) := by decide +kernel
theorem d_Mo_told_63 : decode b_Mo_told 63 = .ok (.iconst 1, 1) := by decide +kernel
theorem d_Mo_told_64 : decode b_Mo_told 64 = .ok (.goto 4, 3) := by decide +kernel
theorem d_Mo_told_67 : decode b_Mo_told 67 = .ok (.iconst 0, 1) := by decide +kernel
theorem d_Mo_told_68 : decode b_Mo_told 68 = .ok (.ireturn, 1) := by decide +kernel
theorem d_Mo_nearest_0 : decode b_Mo_nearest 0 = .ok (.aload_n 0, 1) := by decide +kernel
theorem d_Mo_nearest_1 : decode b_Mo_nearest 1 = .ok (.iconst 0, 1) := by decide +kernel
theorem d_Mo_nearest_2 : decode b_Mo_nearest 2 = .ok (.putfield 32, 3) := by decide +kernel
theorem d_Mo_nearest_5 : decode b_Mo_nearest 5 = .ok (.iload_n 1, 1) := by decide +kernel
theorem d_Mo_nearest_6 : decode b_Mo_nearest 6 = .ok (.ifCond .eq 9, 3) := by decide +kernel
theorem d_Mo_nearest_9 : decode b_Mo_nearest 9 = .ok (.ldc2_w 112, 3) := by decide +kernel
theorem d_Mo_nearest_12 : decode b_Mo_nearest 12 = .ok (.goto 6, 3) := by decide +kernel
theorem d_Mo_nearest_15 : decode b_Mo_nearest 15 = .ok (.ldc2_w 114, 3) := by decide +kernel
theorem d_Mo_nearest_18 : decode b_Mo_nearest 18 = .ok (.lstore_n 2, 1) := by decide +kernel
theorem d_Mo_nearest_19 : decode b_Mo_nearest 19 = .ok (.aload_n 0, 1) := by decide +kernel
theorem d_Mo_nearest_20 : decode b_Mo_nearest 20 = .ok (.getfield 10, 3) := by decide +kernel
theorem d_Mo_nearest_23 : decode b_Mo_nearest 23 = .ok (.getfield 36, 3) := by decide +kernel
theorem d_Mo_nearest_26 : decode b_Mo_nearest 26 = .ok (.ifCond .eq 16, 3) := by decide +kernel
theorem d_Mo_nearest_29 : decode b_Mo_nearest 29 = .ok (.aload_n 0, 1) := by decide +kernel
theorem d_Mo_nearest_30 : decode b_Mo_nearest 30 = .ok (.getfield 10, 3) := by decide +kernel
theorem d_Mo_nearest_33 : decode b_Mo_nearest 33 = .ok (.getfield 101, 3) := by decide +kernel
theorem d_Mo_nearest_36 : decode b_Mo_nearest 36 = .ok (.sipush (-400), 3) := by decide +kernel
theorem d_Mo_nearest_39 : decode b_Mo_nearest 39 = .ok (.if_icmp .ge 5, 3) := by decide +kernel
theorem d_Mo_nearest_42 : decode b_Mo_nearest 42 = .ok (.lconst 0, 1) := by decide +kernel
theorem d_Mo_nearest_43 : decode b_Mo_nearest 43 = .ok (.lreturn, 1) := by decide +kernel
theorem d_Mo_nearest_44 : decode b_Mo_nearest 44 = .ok (.aload_n 0, 1) := by decide +kernel
theorem d_Mo_nearest_45 : decode b_Mo_nearest 45 = .ok (.getfield 10, 3) := by decide +kernel
theorem d_Mo_nearest_48 : decode b_Mo_nearest 48 = .ok (.getfield 101, 3) := by decide +kernel
theorem d_Mo_nearest_51 : decode b_Mo_nearest 51 = .ok (.sipush 400, 3) := by decide +kernel
theorem d_Mo_nearest_54 : decode b_Mo_nearest 54 = .ok (.if_icmp .le 5, 3) := by decide +kernel
theorem d_Mo_nearest_57 : decode b_Mo_nearest 57 = .ok (.lload_n 2, 1) := by decide +kernel
theorem d_Mo_nearest_58 : decode b_Mo_nearest 58 = .ok (.lreturn, 1) := by decide +kernel
theorem d_Mo_nearest_59 : decode b_Mo_nearest 59 = .ok (.aload_n 0, 1) := by decide +kernel
theorem d_Mo_nearest_60 : decode b_Mo_nearest 60 = .ok (.getfield 28, 3) := by decide +kernel
theorem d_Mo_nearest_63 : decode b_Mo_nearest 63 = .ok (.invokevirtual 116, 3) := by decide +kernel
theorem d_Mo_nearest_66 : decode b_Mo_nearest 66 = .ok (.iconst 0, 1) := by decide +kernel
theorem d_Mo_nearest_67 : decode b_Mo_nearest 67 = .ok (.istore 4, 2) := by decide +kernel
theorem d_Mo_nearest_69 : decode b_Mo_nearest 69 = .ok (.iload 4, 2) := by decide +kernel
theorem d_Mo_nearest_71 : decode b_Mo_nearest 71 = .ok (.aload_n 0, 1) := by decide +kernel
theorem d_Mo_nearest_72 : decode b_Mo_nearest 72 = .ok (.getfield 10, 3) := by decide +kernel
theorem d_Mo_nearest_75 : decode b_Mo_nearest 75 = .ok (.getfield 36, 3) := by decide +kernel
theorem d_Mo_nearest_78 : decode b_Mo_nearest 78 = .ok (.if_icmp .ge 51, 3) := by decide +kernel
theorem d_Mo_nearest_81 : decode b_Mo_nearest 81 = .ok (.aload_n 0, 1) := by decide +kernel
theorem d_Mo_nearest_82 : decode b_Mo_nearest 82 = .ok (.getfield 10, 3) := by decide +kernel
theorem d_Mo_nearest_85 : decode b_Mo_nearest 85 = .ok (.getfield 90, 3) := by decide +kernel
theorem d_Mo_nearest_88 : decode b_Mo_nearest 88 = .ok (.iload 4, 2) := by decide +kernel
theorem d_Mo_nearest_90 : decode b_Mo_nearest 90 = .ok (.baload, 1) := by decide +kernel
theorem d_Mo_nearest_91 : decode b_Mo_nearest 91 = .ok (.ifCond .le 32, 3) := by decide +kernel
theorem d_Mo_nearest_94 : decode b_Mo_nearest 94 = .ok (.aload_n 0, 1) := by decide +kernel
theorem d_Mo_nearest_95 : decode b_Mo_nearest 95 = .ok (.getfield 28, 3) := by decide +kernel
theorem d_Mo_nearest_98 : decode b_Mo_nearest 98 = .ok (.aload_n 0, 1) := by decide +kernel
theorem d_Mo_nearest_99 : decode b_Mo_nearest 99 = .ok (.getfield 10, 3) := by decide +kernel
theorem d_Mo_nearest_102 : decode b_Mo_nearest 102 = .ok (.getfield 90, 3) := by decide +kernel
theorem d_Mo_nearest_105 : decode b_Mo_nearest 105 = .ok (.iload 4, 2) := by decide +kernel
theorem d_Mo_nearest_107 : decode b_Mo_nearest 107 = .ok (.baload, 1) := by decide +kernel
theorem d_Mo_nearest_108 : decode b_Mo_nearest 108 = .ok (.aload_n 0, 1) := by decide +kernel
theorem d_Mo_nearest_109 : decode b_Mo_nearest 109 = .ok (.getfield 10, 3) := by decide +kernel
theorem d_Mo_nearest_112 : decode b_Mo_nearest 112 = .ok (.getfield 101, 3) := by decide +kernel
theorem d_Mo_nearest_115 : decode b_Mo_nearest 115 = .ok (.iconst 1, 1) := by decide +kernel
theorem d_Mo_nearest_116 : decode b_Mo_nearest 116 = .ok (.isub, 1) := by decide +kernel
theorem d_Mo_nearest_117 : decode b_Mo_nearest 117 = .ok (.iload 4, 2) := by decide +kernel
theorem d_Mo_nearest_119 : decode b_Mo_nearest 119 = .ok (.isub, 1) := by decide +kernel
theorem d_Mo_nearest_120 : decode b_Mo_nearest 120 = .ok (.invokevirtual 119, 3) := by decide +kernel
theorem d_Mo_nearest_123 : decode b_Mo_nearest 123 = .ok (.iinc 4 1, 3) := by decide +kernel
theorem d_Mo_nearest_126 : decode b_Mo_nearest 126 = .ok (.goto (-57), 3) := by decide +kernel
theorem d_Mo_nearest_129 : decode b_Mo_nearest 129 = .ok (.iload_n 1, 1) := by decide +kernel
theorem d_Mo_nearest_130 : decode b_Mo_nearest 130 = .ok (.ifCond .eq 8, 3) := by decide +kernel
theorem d_Mo_nearest_133 : decode b_Mo_nearest 133 = .ok (.bipush 24, 2) := by decide +kernel
theorem d_Mo_nearest_135 : decode b_Mo_nearest 135 = .ok (.goto 5, 3) := by decide +kernel
theorem d_Mo_nearest_138 : decode b_Mo_nearest 138 = .ok (.bipush 53, 2) := by decide +kernel
theorem d_Mo_nearest_140 : decode b_Mo_nearest 140 = .ok (.istore 4, 2) := by decide +kernel
theorem d_Mo_nearest_142 : decode b_Mo_nearest 142 = .ok (.iload_n 1, 1) := by decide +kernel
theorem d_Mo_nearest_143 : decode b_Mo_nearest 143 = .ok (.ifCond .eq 9, 3) := by decide +kernel
theorem d_Mo_nearest_146 : decode b_Mo_nearest 146 = .ok (.sipush (-149), 3) := by decide +kernel
theorem d_Mo_nearest_149 : decode b_Mo_nearest 149 = .ok (.goto 6, 3) := by decide +kernel
theorem d_Mo_nearest_152 : decode b_Mo_nearest 152 = .ok (.sipush (-1074), 3) := by decide +kernel
theorem d_Mo_nearest_155 : decode b_Mo_nearest 155 = .ok (.istore 5, 2) := by decide +kernel
theorem d_Mo_nearest_157 : decode b_Mo_nearest 157 = .ok (.iload_n 1, 1) := by decide +kernel
theorem d_Mo_nearest_158 : decode b_Mo_nearest 158 = .ok (.ifCond .eq 8, 3) := by decide +kernel
theorem d_Mo_nearest_161 : decode b_Mo_nearest 161 = .ok (.bipush 104, 2) := by decide +kernel
theorem d_Mo_nearest_163 : decode b_Mo_nearest 163 = .ok (.goto 6, 3) := by decide +kernel
theorem d_Mo_nearest_166 : decode b_Mo_nearest 166 = .ok (.sipush 971, 3) := by decide +kernel
theorem d_Mo_nearest_169 : decode b_Mo_nearest 169 = .ok (.istore 6, 2) := by decide +kernel
theorem d_Mo_nearest_171 : decode b_Mo_nearest 171 = .ok (.iconst 0, 1) := by decide +kernel
theorem d_Mo_nearest_172 : decode b_Mo_nearest 172 = .ok (.istore 7, 2) := by decide +kernel
theorem d_Mo_nearest_174 : decode b_Mo_nearest 174 = .ok (.aload_n 0, 1) := by decide +kernel
theorem d_Mo_nearest_175 : decode b_Mo_nearest 175 = .ok (.getfield 28, 3) := by decide +kernel
theorem d_Mo_nearest_178 : decode b_Mo_nearest 178 = .ok (.getfield 123, 3) := by decide +kernel
theorem d_Mo_nearest_181 : decode b_Mo_nearest 181 = .ok (.bipush 43, 2) := by decide +kernel
theorem d_Mo_nearest_183 : decode b_Mo_nearest 183 = .ok (.if_icmp .lt 12, 3) := by decide +kernel
theorem d_Mo_nearest_186 : decode b_Mo_nearest 186 = .ok (.aload_n 0, 1) := by decide +kernel
theorem d_Mo_nearest_187 : decode b_Mo_nearest 187 = .ok (.invokevirtual 126, 3) := by decide +kernel
theorem d_Mo_nearest_190 : decode b_Mo_nearest 190 = .ok (.iload 4, 2) := by decide +kernel
theorem d_Mo_nearest_192 : decode b_Mo_nearest 192 = .ok (.if_icmp .le 16, 3) := by decide +kernel
theorem d_Mo_nearest_195 : decode b_Mo_nearest 195 = .ok (.aload_n 0, 1) := by decide +kernel
theorem d_Mo_nearest_196 : decode b_Mo_nearest 196 = .ok (.getfield 28, 3) := by decide +kernel
theorem d_Mo_nearest_199 : decode b_Mo_nearest 199 = .ok (.invokevirtual 129, 3) := by decide +kernel
theorem d_Mo_nearest_202 : decode b_Mo_nearest 202 = .ok (.iinc 7 1, 3) := by decide +kernel
theorem d_Mo_nearest_205 : decode b_Mo_nearest 205 = .ok (.goto (-31), 3) := by decide +kernel
theorem d_Mo_nearest_208 : decode b_Mo_nearest 208 = .ok (.aload_n 0, 1) := by decide +kernel
theorem d_Mo_nearest_209 : decode b_Mo_nearest 209 = .ok (.invokevirtual 126, 3) := by decide +kernel
theorem d_Mo_nearest_212 : decode b_Mo_nearest 212 = .ok (.iload 4, 2) := by decide +kernel
theorem d_Mo_nearest_214 : decode b_Mo_nearest 214 = .ok (.if_icmp .ge 23, 3) := by decide +kernel
theorem d_Mo_nearest_217 : decode b_Mo_nearest 217 = .ok (.iload 7, 2) := by decide +kernel
theorem d_Mo_nearest_219 : decode b_Mo_nearest 219 = .ok (.iload 5, 2) := by decide +kernel
theorem d_Mo_nearest_221 : decode b_Mo_nearest 221 = .ok (.if_icmp .le 16, 3) := by decide +kernel
theorem d_Mo_nearest_224 : decode b_Mo_nearest 224 = .ok (.aload_n 0, 1) := by decide +kernel
theorem d_Mo_nearest_225 : decode b_Mo_nearest 225 = .ok (.getfield 28, 3) := by decide +kernel
theorem d_Mo_nearest_228 : decode b_Mo_nearest 228 = .ok (.invokevirtual 132, 3) := by decide +kernel
theorem d_Mo_nearest_231 : decode b_Mo_nearest 231 = .ok (.iinc 7 (-1), 3) := by decide +kernel
theorem d_Mo_nearest_234 : decode b_Mo_nearest 234 = .ok (.goto (-26), 3) := by decide +kernel
theorem d_Mo_nearest_237 : decode b_Mo_nearest 237 = .ok (.aload_n 0, 1) := by decide +kernel
theorem d_Mo_nearest_238 : decode b_Mo_nearest 238 = .ok (.invokevirtual 135, 3) := by decide +kernel
theorem d_Mo_nearest_241 : decode b_Mo_nearest 241 = .ok (.lstore 8, 2) := by decide +kernel
theorem d_Mo_nearest_243 : decode b_Mo_nearest 243 = .ok (.aload_n 0, 1) := by decide +kernel
theorem d_Mo_nearest_244 : decode b_Mo_nearest 244 = .ok (.getfield 28, 3) := by decide +kernel
theorem d_Mo_nearest_247 : decode b_Mo_nearest 247 = .ok (.iconst (-1), 1) := by decide +kernel
theorem d_Mo_nearest_248 : decode b_Mo_nearest 248 = .ok (.invokevirtual 139, 3) := by decide +kernel
theorem d_Mo_nearest_251 : decode b_Mo_nearest 251 = .ok (.iconst 5, 1) := by decide +kernel
theorem d_Mo_nearest_252 : decode b_Mo_nearest 252 = .ok (.if_icmp .lt 7, 3) := by decide +kernel
theorem d_Mo_nearest_255 : decode b_Mo_nearest 255 = .ok (.iconst 1, 1) := by decide +kernel
theorem d_Mo_nearest_256 : decode b_Mo_nearest 256 = .ok (.goto 4, 3) := by decide +kernel
theorem d_Mo_nearest_259 : decode b_Mo_nearest 259 = .ok (.iconst 0, 1) := by decide +kernel
theorem d_Mo_nearest_260 : decode b_Mo_nearest 260 = .ok (.istore 10, 2) := by decide +kernel
theorem d_Mo_nearest_262 : decode b_Mo_nearest 262 = .ok (.aload_n 0, 1) := by decide +kernel
theorem d_Mo_nearest_263 : decode b_Mo_nearest 263 = .ok (.getfield 28, 3) := by decide +kernel
theorem d_Mo_nearest_266 : decode b_Mo_nearest 266 = .ok (.iconst (-1), 1) := by decide +kernel
theorem d_Mo_nearest_267 : decode b_Mo_nearest 267 = .ok (.invokevirtual 139, 3) := by decide +kernel
theorem d_Mo_nearest_270 : decode b_Mo_nearest 270 = .ok (.iconst 5, 1) := by decide +kernel
theorem d_Mo_nearest_271 : decode b_Mo_nearest 271 = .ok (.if_icmp .ne 25, 3) := by decide +kernel
theorem d_Mo_nearest_274 : decode b_Mo_nearest 274 = .ok (.aload_n 0, 1) := by decide +kernel
theorem d_Mo_nearest_275 : decode b_Mo_nearest 275 = .ok (.getfield 28, 3) := by decide +kernel
theorem d_Mo_nearest_278 : decode b_Mo_nearest 278 = .ok (.iconst (-1), 1) := by decide +kernel
theorem d_Mo_nearest_279 : decode b_Mo_nearest 279 = .ok (.invokevirtual 143, 3) := by decide +kernel
theorem d_Mo_nearest_282 : decode b_Mo_nearest 282 = .ok (.ifCond .ne 14, 3) := by decide +kernel
theorem d_Mo_nearest_285 : decode b_Mo_nearest 285 = .ok (.aload_n 0, 1) := by decide +kernel
theorem d_Mo_nearest_286 : decode b_Mo_nearest 286 = .ok (.getfield 39, 3) := by decide +kernel
theorem d_Mo_nearest_289 : decode b_Mo_nearest 289 = .ok (.ifCond .ne 7, 3) := by decide +kernel
theorem d_Mo_nearest_292 : decode b_Mo_nearest 292 = .ok (.iconst 1, 1) := by decide +kernel
theorem d_Mo_nearest_293 : decode b_Mo_nearest 293 = .ok (.goto 4, 3) := by decide +kernel
theorem d_Mo_nearest_296 : decode b_Mo_nearest 296 = .ok (.iconst 0, 1) := by decide +kernel
theorem d_Mo_nearest_297 : decode b_Mo_nearest 297 = .ok (.istore 11, 2) := by decide +kernel
theorem d_Mo_nearest_299 : decode b_Mo_nearest 299 = .ok (.iload 10, 2) := by decide +kernel
theorem d_Mo_nearest_301 : decode b_Mo_nearest 301 = .ok (.ifCond .eq 23, 3) := by decide +kernel
theorem d_Mo_nearest_304 : decode b_Mo_nearest 304 = .ok (.iload 11, 2) := by decide +kernel
theorem d_Mo_nearest_306 : decode b_Mo_nearest 306 = .ok (.ifCond .eq 12, 3) := by decide +kernel
theorem d_Mo_nearest_309 : decode b_Mo_nearest 309 = .ok (.lload 8, 2) := by decide +kernel
theorem d_Mo_nearest_311 : decode b_Mo_nearest 311 = .ok (.lconst 1, 1) := by decide +kernel
theorem d_Mo_nearest_312 : decode b_Mo_nearest 312 = .ok (.land, 1) := by decide +kernel
theorem d_Mo_nearest_313 : decode b_Mo_nearest 313 = .ok (.lconst 1, 1) := by decide +kernel
theorem d_Mo_nearest_314 : decode b_Mo_nearest 314 = .ok (.lcmp, 1) := by decide +kernel
theorem d_Mo_nearest_315 : decode b_Mo_nearest 315 = .ok (.ifCond .ne 9, 3) := by decide +kernel
theorem d_Mo_nearest_318 : decode b_Mo_nearest 318 = .ok (.lload 8, 2) := by decide +kernel
theorem d_Mo_nearest_320 : decode b_Mo_nearest 320 = .ok (.lconst 1, 1) := by decide +kernel
theorem d_Mo_nearest_321 : decode b_Mo_nearest 321 = .ok (.ladd, 1) := by decide +kernel
theorem d_Mo_nearest_322 : decode b_Mo_nearest 322 = .ok (.lstore 8, 2) := by decide +kernel
theorem d_Mo_nearest_324 : decode b_Mo_nearest 324 = .ok (.lload 8, 2) := by decide +kernel
theorem d_Mo_nearest_326 : decode b_Mo_nearest 326 = .ok (.iload 4, 2) := by decide +kernel
theorem d_Mo_nearest_328 : decode b_Mo_nearest 328 = .ok (.lshr, 1) := by decide +kernel
theorem d_Mo_nearest_329 : decode b_Mo_nearest 329 = .ok (.lconst 0, 1) := by decide +kernel
theorem d_Mo_nearest_330 : decode b_Mo_nearest 330 = .ok (.lcmp, 1) := by decide +kernel
theorem d_Mo_nearest_331 : decode b_Mo_nearest 331 = .ok (.ifCond .le 12, 3) := by decide +kernel
theorem d_Mo_nearest_334 : decode b_Mo_nearest 334 = .ok (.lload 8, 2) := by decide +kernel
theorem d_Mo_nearest_336 : decode b_Mo_nearest 336 = .ok (.iconst 1, 1) := by decide +kernel
theorem d_Mo_nearest_337 : decode b_Mo_nearest 337 = .ok (.lshr, 1) := by decide +kernel
theorem d_Mo_nearest_338 : decode b_Mo_nearest 338 = .ok (.lstore 8, 2) := by decide +kernel
theorem d_Mo_nearest_340 : decode b_Mo_nearest 340 = .ok (.iinc 7 1, 3) := by decide +kernel
theorem d_Mo_nearest_343 : decode b_Mo_nearest 343 = .ok (.iload 7, 2) := by decide +kernel
theorem d_Mo_nearest_345 : decode b_Mo_nearest 345 = .ok (.iload 6, 2) := by decide +kernel
theorem d_Mo_nearest_347 : decode b_Mo_nearest 347 = .ok (.if_icmp .le 5, 3) := by decide +kernel
theorem d_Mo_nearest_350 : decode b_Mo_nearest 350 = .ok (.lload_n 2, 1) := by decide +kernel
theorem d_Mo_nearest_351 : decode b_Mo_nearest 351 = .ok (.lreturn, 1) := by decide +kernel
theorem d_Mo_nearest_352 : decode b_Mo_nearest 352 = .ok (.lload 8, 2) := by decide +kernel
theorem d_Mo_nearest_354 : decode b_Mo_nearest 354 = .ok (.iload 4, 2) := by decide +kernel
theorem d_Mo_nearest_356 : decode b_Mo_nearest 356 = .ok (.iconst 1, 1) := by decide +kernel
theorem d_Mo_nearest_357 : decode b_Mo_nearest 357 = .ok (.isub, 1) := by decide +kernel
theorem d_Mo_nearest_358 : decode b_Mo_nearest 358 = .ok (.lshr, 1) := by decide +kernel
theorem d_Mo_nearest_359 : decode b_Mo_nearest 359 = .ok (.lconst 0, 1) := by decide +kernel
theorem d_Mo_nearest_360 : decode b_Mo_nearest 360 = .ok (.lcmp, 1) := by decide +kernel
theorem d_Mo_nearest_361 : decode b_Mo_nearest 361 = .ok (.ifCond .ne 6, 3) := by decide +kernel
theorem d_Mo_nearest_364 : decode b_Mo_nearest 364 = .ok (.lload 8, 2) := by decide +kernel
theorem d_Mo_nearest_366 : decode b_Mo_nearest 366 = .ok (.lreturn, 1) := by decide +kernel
theorem d_Mo_nearest_367 : decode b_Mo_nearest 367 = .ok (.iload 7, 2) := by decide +kernel
theorem d_Mo_nearest_369 : decode b_Mo_nearest 369 = .ok (.iload 5, 2) := by decide +kernel
theorem d_Mo_nearest_371 : decode b_Mo_nearest 371 = .ok (.isub, 1) := by decide +kernel
theorem d_Mo_nearest_372 : decode b_Mo_nearest 372 = .ok (.iconst 1, 1) := by decide +kernel
theorem d_Mo_nearest_373 : decode b_Mo_nearest 373 = .ok (.iadd, 1) := by decide +kernel
theorem d_Mo_nearest_374 : decode b_Mo_nearest 374 = .ok (.i2l, 1) := by decide +kernel
theorem d_Mo_nearest_375 : decode b_Mo_nearest 375 = .ok (.iload 4, 2) := by decide +kernel
theorem d_Mo_nearest_377 : decode b_Mo_nearest 377 = .ok (.iconst 1, 1) := by decide +kernel
theorem d_Mo_nearest_378 : decode b_Mo_nearest 378 = .ok (.isub, 1) := by decide +kernel
theorem d_Mo_nearest_379 : decode b_Mo_nearest 379 = .ok (.lshl, 1) := by decide +kernel
theorem d_Mo_nearest_380 : decode b_Mo_nearest 380 = .ok (.lload 8, 2) := by decide +kernel
theorem d_Mo_nearest_382 : decode b_Mo_nearest 382 = .ok (.lconst 1, 1) := by decide +kernel
theorem d_Mo_nearest_383 : decode b_Mo_nearest 383 = .ok (.iload 4, 2) := by decide +kernel
theorem d_Mo_nearest_385 : decode b_Mo_nearest 385 = .ok (.iconst 1, 1) := by decide +kernel
theorem d_Mo_nearest_386 : decode b_Mo_nearest 386 = .ok (.isub, 1) := by decide +kernel
theorem d_Mo_nearest_387 : decode b_Mo_nearest 387 = .ok (.lshl, 1) := by decide +kernel
theorem d_Mo_nearest_388 : decode b_Mo_nearest 388 = .ok (.lconst 1, 1) := by decide +kernel
theorem d_Mo_nearest_389 : decode b_Mo_nearest 389 = .ok (.lsub, 1) := by decide +kernel
theorem d_Mo_nearest_390 : decode b_Mo_nearest 390 = .ok (.land, 1) := by decide +kernel
theorem d_Mo_nearest_391 : decode b_Mo_nearest 391 = .ok (.lor, 1) := by decide +kernel
theorem d_Mo_nearest_392 : decode b_Mo_nearest 392 = .ok (.lreturn, 1) := by decide +kernel
theorem d_Mo_bits_0 : decode b_Mo_bits 0 = .ok (.bipush 64, 2) := by decide +kernel
theorem d_Mo_bits_2 : decode b_Mo_bits 2 = .ok (.aload_n 0, 1) := by decide +kernel
theorem d_Mo_bits_3 : decode b_Mo_bits 3 = .ok (.invokevirtual 135, 3) := by decide +kernel
theorem d_Mo_bits_6 : decode b_Mo_bits 6 = .ok (.invokestatic 147, 3) := by decide +kernel
theorem d_Mo_bits_9 : decode b_Mo_bits 9 = .ok (.isub, 1) := by decide +kernel
theorem d_Mo_bits_10 : decode b_Mo_bits 10 = .ok (.ireturn, 1) := by decide +kernel
theorem d_Mo_ones_0 : decode b_Mo_ones 0 = .ok (.aload_n 0, 1) := by decide +kernel
theorem d_Mo_ones_1 : decode b_Mo_ones 1 = .ok (.getfield 28, 3) := by decide +kernel
theorem d_Mo_ones_4 : decode b_Mo_ones 4 = .ok (.getfield 153, 3) := by decide +kernel
theorem d_Mo_ones_7 : decode b_Mo_ones 7 = .ok (.bipush 43, 2) := by decide +kernel
theorem d_Mo_ones_9 : decode b_Mo_ones 9 = .ok (.iaload, 1) := by decide +kernel
theorem d_Mo_ones_10 : decode b_Mo_ones 10 = .ok (.i2l, 1) := by decide +kernel
theorem d_Mo_ones_11 : decode b_Mo_ones 11 = .ok (.ldc2_w 157, 3) := by decide +kernel
theorem d_Mo_ones_14 : decode b_Mo_ones 14 = .ok (.lmul, 1) := by decide +kernel
theorem d_Mo_ones_15 : decode b_Mo_ones 15 = .ok (.aload_n 0, 1) := by decide +kernel
theorem d_Mo_ones_16 : decode b_Mo_ones 16 = .ok (.getfield 28, 3) := by decide +kernel
theorem d_Mo_ones_19 : decode b_Mo_ones 19 = .ok (.getfield 153, 3) := by decide +kernel
theorem d_Mo_ones_22 : decode b_Mo_ones 22 = .ok (.bipush 44, 2) := by decide +kernel
theorem d_Mo_ones_24 : decode b_Mo_ones 24 = .ok (.iaload, 1) := by decide +kernel
theorem d_Mo_ones_25 : decode b_Mo_ones 25 = .ok (.i2l, 1) := by decide +kernel
theorem d_Mo_ones_26 : decode b_Mo_ones 26 = .ok (.ladd, 1) := by decide +kernel
theorem d_Mo_ones_27 : decode b_Mo_ones 27 = .ok (.lreturn, 1) := by decide +kernel
theorem d_Mo_digest_0 : decode b_Mo_digest 0 = .ok (.aload_n 0, 1) := by decide +kernel
theorem d_Mo_digest_1 : decode b_Mo_digest 1 = .ok (.iconst 0, 1) := by decide +kernel
theorem d_Mo_digest_2 : decode b_Mo_digest 2 = .ok (.putfield 32, 3) := by decide +kernel
theorem d_Mo_digest_5 : decode b_Mo_digest 5 = .ok (.ldc2_w 159, 3) := by decide +kernel
theorem d_Mo_digest_8 : decode b_Mo_digest 8 = .ok (.lstore_n 1, 1) := by decide +kernel
theorem d_Mo_digest_9 : decode b_Mo_digest 9 = .ok (.iconst 0, 1) := by decide +kernel
theorem d_Mo_digest_10 : decode b_Mo_digest 10 = .ok (.istore_n 3, 1) := by decide +kernel
theorem d_Mo_digest_11 : decode b_Mo_digest 11 = .ok (.iload_n 3, 1) := by decide +kernel
theorem d_Mo_digest_12 : decode b_Mo_digest 12 = .ok (.aload_n 0, 1) := by decide +kernel
theorem d_Mo_digest_13 : decode b_Mo_digest 13 = .ok (.getfield 10, 3) := by decide +kernel
theorem d_Mo_digest_16 : decode b_Mo_digest 16 = .ok (.getfield 36, 3) := by decide +kernel
theorem d_Mo_digest_19 : decode b_Mo_digest 19 = .ok (.if_icmp .ge 26, 3) := by decide +kernel
theorem d_Mo_digest_22 : decode b_Mo_digest 22 = .ok (.ldc2_w 161, 3) := by decide +kernel
theorem d_Mo_digest_25 : decode b_Mo_digest 25 = .ok (.lload_n 1, 1) := by decide +kernel
theorem d_Mo_digest_26 : decode b_Mo_digest 26 = .ok (.lmul, 1) := by decide +kernel
theorem d_Mo_digest_27 : decode b_Mo_digest 27 = .ok (.aload_n 0, 1) := by decide +kernel
theorem d_Mo_digest_28 : decode b_Mo_digest 28 = .ok (.getfield 10, 3) := by decide +kernel
theorem d_Mo_digest_31 : decode b_Mo_digest 31 = .ok (.getfield 90, 3) := by decide +kernel
theorem d_Mo_digest_34 : decode b_Mo_digest 34 = .ok (.iload_n 3, 1) := by decide +kernel
theorem d_Mo_digest_35 : decode b_Mo_digest 35 = .ok (.baload, 1) := by decide +kernel
theorem d_Mo_digest_36 : decode b_Mo_digest 36 = .ok (.i2l, 1) := by decide +kernel
theorem d_Mo_digest_37 : decode b_Mo_digest 37 = .ok (.ladd, 1) := by decide +kernel
theorem d_Mo_digest_38 : decode b_Mo_digest 38 = .ok (.lstore_n 1, 1) := by decide +kernel
theorem d_Mo_digest_39 : decode b_Mo_digest 39 = .ok (.iinc 3 1, 3) := by decide +kernel
theorem d_Mo_digest_42 : decode b_Mo_digest 42 = .ok (.goto (-31), 3) := by decide +kernel
theorem d_Mo_digest_45 : decode b_Mo_digest 45 = .ok (.ldc2_w 161, 3) := by decide +kernel
theorem d_Mo_digest_48 : decode b_Mo_digest 48 = .ok (.lload_n 1, 1) := by decide +kernel
theorem d_Mo_digest_49 : decode b_Mo_digest 49 = .ok (.lmul, 1) := by decide +kernel
theorem d_Mo_digest_50 : decode b_Mo_digest 50 = .ok (.aload_n 0, 1) := by decide +kernel
theorem d_Mo_digest_51 : decode b_Mo_digest 51 = .ok (.getfield 10, 3) := by decide +kernel
theorem d_Mo_digest_54 : decode b_Mo_digest 54 = .ok (.getfield 101, 3) := by decide +kernel
theorem d_Mo_digest_57 : decode b_Mo_digest 57 = .ok (.i2l, 1) := by decide +kernel
theorem d_Mo_digest_58 : decode b_Mo_digest 58 = .ok (.ladd, 1) := by decide +kernel
theorem d_Mo_digest_59 : decode b_Mo_digest 59 = .ok (.lreturn, 1) := by decide +kernel
end
section
theorem d_La_real_0 : decode b_La_real 0 = .ok (.aload 4, 2) := by decide +kernel
theorem d_La_real_2 : decode b_La_real 2 = .ok (.iconst 0, 1) := by decide +kernel
theorem d_La_real_3 : decode b_La_real 3 = .ok (.aload_n 0, 1) := by decide +kernel
theorem d_La_real_4 : decode b_La_real 4 = .ok (.lload_n 1, 1) := by decide +kernel
theorem d_La_real_5 : decode b_La_real 5 = .ok (.iload_n 3, 1) := by decide +kernel
theorem d_La_real_6 : decode b_La_real 6 = .ok (.invokevirtual 7, 3) := by decide +kernel
theorem d_La_real_9 : decode b_La_real 9 = .ok (.i2l, 1) := by decide +kernel
theorem d_La_real_10 : decode b_La_real 10 = .ok (.lastore, 1) := by decide +kernel
theorem d_La_real_11 : decode b_La_real 11 = .ok (.goto 7, 3) := by decide +kernel
theorem d_La_real_14 : decode b_La_real 14 = .ok (.astore 5, 2) := by decide +kernel
theorem d_La_real_16 : decode b_La_real 16 = .ok (.iconst 1, 1) := by decide +kernel
theorem d_La_real_17 : decode b_La_real 17 = .ok (.ireturn, 1) := by decide +kernel
theorem d_La_real_18 : decode b_La_real 18 = .ok (.iconst 0, 1) := by decide +kernel
theorem d_La_real_19 : decode b_La_real 19 = .ok (.ireturn, 1) := by decide +kernel
theorem d_La_shortest_0 : decode b_La_shortest 0 = .ok (.aload 4, 2) := by decide +kernel
theorem d_La_shortest_2 : decode b_La_shortest 2 = .ok (.iconst 0, 1) := by decide +kernel
theorem d_La_shortest_3 : decode b_La_shortest 3 = .ok (.aload_n 0, 1) := by decide +kernel
theorem d_La_shortest_4 : decode b_La_shortest 4 = .ok (.lload_n 1, 1) := by decide +kernel
theorem d_La_shortest_5 : decode b_La_shortest 5 = .ok (.iload_n 3, 1) := by decide +kernel
theorem d_La_shortest_6 : decode b_La_shortest 6 = .ok (.invokevirtual 15, 3) := by decide +kernel
theorem d_La_shortest_9 : decode b_La_shortest 9 = .ok (.i2l, 1) := by decide +kernel
theorem d_La_shortest_10 : decode b_La_shortest 10 = .ok (.lastore, 1) := by decide +kernel
theorem d_La_shortest_11 : decode b_La_shortest 11 = .ok (.goto 7, 3) := by decide +kernel
theorem d_La_shortest_14 : decode b_La_shortest 14 = .ok (.astore 5, 2) := by decide +kernel
theorem d_La_shortest_16 : decode b_La_shortest 16 = .ok (.iconst 1, 1) := by decide +kernel
theorem d_La_shortest_17 : decode b_La_shortest 17 = .ok (.ireturn, 1) := by decide +kernel
theorem d_La_shortest_18 : decode b_La_shortest 18 = .ok (.iconst 0, 1) := by decide +kernel
theorem d_La_shortest_19 : decode b_La_shortest 19 = .ok (.ireturn, 1) := by decide +kernel
theorem d_La_put_0 : decode b_La_put 0 = .ok (.aload_n 3, 1) := by decide +kernel
theorem d_La_put_1 : decode b_La_put 1 = .ok (.iconst 0, 1) := by decide +kernel
theorem d_La_put_2 : decode b_La_put 2 = .ok (.aload_n 0, 1) := by decide +kernel
theorem d_La_put_3 : decode b_La_put 3 = .ok (.iload_n 1, 1) := by decide +kernel
theorem d_La_put_4 : decode b_La_put 4 = .ok (.iload_n 2, 1) := by decide +kernel
theorem d_La_put_5 : decode b_La_put 5 = .ok (.invokevirtual 18, 3) := by decide +kernel
theorem d_La_put_8 : decode b_La_put 8 = .ok (.i2l, 1) := by decide +kernel
theorem d_La_put_9 : decode b_La_put 9 = .ok (.lastore, 1) := by decide +kernel
theorem d_La_put_10 : decode b_La_put 10 = .ok (.goto 7, 3) := by decide +kernel
theorem d_La_put_13 : decode b_La_put 13 = .ok (.astore 4, 2) := by decide +kernel
theorem d_La_put_15 : decode b_La_put 15 = .ok (.iconst 1, 1) := by decide +kernel
theorem d_La_put_16 : decode b_La_put 16 = .ok (.ireturn, 1) := by decide +kernel
theorem d_La_put_17 : decode b_La_put 17 = .ok (.iconst 0, 1) := by decide +kernel
theorem d_La_put_18 : decode b_La_put 18 = .ok (.ireturn, 1) := by decide +kernel
theorem d_La_shift_0 : decode b_La_shift 0 = .ok (.aload_n 2, 1) := by decide +kernel
theorem d_La_shift_1 : decode b_La_shift 1 = .ok (.iconst 0, 1) := by decide +kernel
theorem d_La_shift_2 : decode b_La_shift 2 = .ok (.aload_n 0, 1) := by decide +kernel
theorem d_La_shift_3 : decode b_La_shift 3 = .ok (.iload_n 1, 1) := by decide +kernel
theorem d_La_shift_4 : decode b_La_shift 4 = .ok (.invokevirtual 24, 3) := by decide +kernel
theorem d_La_shift_7 : decode b_La_shift 7 = .ok (.i2l, 1) := by decide +kernel
theorem d_La_shift_8 : decode b_La_shift 8 = .ok (.lastore, 1) := by decide +kernel
theorem d_La_shift_9 : decode b_La_shift 9 = .ok (.goto 6, 3) := by decide +kernel
theorem d_La_shift_12 : decode b_La_shift 12 = .ok (.astore_n 3, 1) := by decide +kernel
theorem d_La_shift_13 : decode b_La_shift 13 = .ok (.iconst 1, 1) := by decide +kernel
theorem d_La_shift_14 : decode b_La_shift 14 = .ok (.ireturn, 1) := by decide +kernel
theorem d_La_shift_15 : decode b_La_shift 15 = .ok (.iconst 0, 1) := by decide +kernel
theorem d_La_shift_16 : decode b_La_shift 16 = .ok (.ireturn, 1) := by decide +kernel
theorem d_La_move_0 : decode b_La_move 0 = .ok (.aload_n 2, 1) := by decide +kernel
theorem d_La_move_1 : decode b_La_move 1 = .ok (.iconst 0, 1) := by decide +kernel
theorem d_La_move_2 : decode b_La_move 2 = .ok (.aload_n 0, 1) := by decide +kernel
theorem d_La_move_3 : decode b_La_move 3 = .ok (.iload_n 1, 1) := by decide +kernel
theorem d_La_move_4 : decode b_La_move 4 = .ok (.invokevirtual 28, 3) := by decide +kernel
theorem d_La_move_7 : decode b_La_move 7 = .ok (.i2l, 1) := by decide +kernel
theorem d_La_move_8 : decode b_La_move 8 = .ok (.lastore, 1) := by decide +kernel
theorem d_La_move_9 : decode b_La_move 9 = .ok (.goto 6, 3) := by decide +kernel
theorem d_La_move_12 : decode b_La_move 12 = .ok (.astore_n 3, 1) := by decide +kernel
theorem d_La_move_13 : decode b_La_move 13 = .ok (.iconst 1, 1) := by decide +kernel
theorem d_La_move_14 : decode b_La_move 14 = .ok (.ireturn, 1) := by decide +kernel
theorem d_La_move_15 : decode b_La_move 15 = .ok (.iconst 0, 1) := by decide +kernel
theorem d_La_move_16 : decode b_La_move 16 = .ok (.ireturn, 1) := by decide +kernel
theorem d_La_round_0 : decode b_La_round 0 = .ok (.aload_n 2, 1) := by decide +kernel
theorem d_La_round_1 : decode b_La_round 1 = .ok (.iconst 0, 1) := by decide +kernel
theorem d_La_round_2 : decode b_La_round 2 = .ok (.aload_n 0, 1) := by decide +kernel
theorem d_La_round_3 : decode b_La_round 3 = .ok (.iload_n 1, 1) := by decide +kernel
theorem d_La_round_4 : decode b_La_round 4 = .ok (.invokevirtual 31, 3) := by decide +kernel
theorem d_La_round_7 : decode b_La_round 7 = .ok (.i2l, 1) := by decide +kernel
theorem d_La_round_8 : decode b_La_round 8 = .ok (.lastore, 1) := by decide +kernel
theorem d_La_round_9 : decode b_La_round 9 = .ok (.goto 6, 3) := by decide +kernel
theorem d_La_round_12 : decode b_La_round 12 = .ok (.astore_n 3, 1) := by decide +kernel
theorem d_La_round_13 : decode b_La_round 13 = .ok (.iconst 1, 1) := by decide +kernel
theorem d_La_round_14 : decode b_La_round 14 = .ok (.ireturn, 1) := by decide +kernel
theorem d_La_round_15 : decode b_La_round 15 = .ok (.iconst 0, 1) := by decide +kernel
theorem d_La_round_16 : decode b_La_round 16 = .ok (.ireturn, 1) := by decide +kernel
theorem d_La_cut_0 : decode b_La_cut 0 = .ok (.aload_n 2, 1) := by decide +kernel
theorem d_La_cut_1 : decode b_La_cut 1 = .ok (.iconst 0, 1) := by decide +kernel
theorem d_La_cut_2 : decode b_La_cut 2 = .ok (.aload_n 0, 1) := by decide +kernel
theorem d_La_cut_3 : decode b_La_cut 3 = .ok (.iload_n 1, 1) := by decide +kernel
theorem d_La_cut_4 : decode b_La_cut 4 = .ok (.invokevirtual 34, 3) := by decide +kernel
theorem d_La_cut_7 : decode b_La_cut 7 = .ok (.i2l, 1) := by decide +kernel
theorem d_La_cut_8 : decode b_La_cut 8 = .ok (.lastore, 1) := by decide +kernel
theorem d_La_cut_9 : decode b_La_cut 9 = .ok (.goto 6, 3) := by decide +kernel
theorem d_La_cut_12 : decode b_La_cut 12 = .ok (.astore_n 3, 1) := by decide +kernel
theorem d_La_cut_13 : decode b_La_cut 13 = .ok (.iconst 1, 1) := by decide +kernel
theorem d_La_cut_14 : decode b_La_cut 14 = .ok (.ireturn, 1) := by decide +kernel
theorem d_La_cut_15 : decode b_La_cut 15 = .ok (.iconst 0, 1) := by decide +kernel
theorem d_La_cut_16 : decode b_La_cut 16 = .ok (.ireturn, 1) := by decide +kernel
theorem d_La_told_0 : decode b_La_told 0 = .ok (.aload_n 2, 1) := by decide +kernel
theorem d_La_told_1 : decode b_La_told 1 = .ok (.iconst 0, 1) := by decide +kernel
theorem d_La_told_2 : decode b_La_told 2 = .ok (.aload_n 0, 1) := by decide +kernel
theorem d_La_told_3 : decode b_La_told 3 = .ok (.iload_n 1, 1) := by decide +kernel
theorem d_La_told_4 : decode b_La_told 4 = .ok (.invokevirtual 37, 3) := by decide +kernel
theorem d_La_told_7 : decode b_La_told 7 = .ok (.i2l, 1) := by decide +kernel
theorem d_La_told_8 : decode b_La_told 8 = .ok (.lastore, 1) := by decide +kernel
theorem d_La_told_9 : decode b_La_told 9 = .ok (.goto 6, 3) := by decide +kernel
theorem d_La_told_12 : decode b_La_told 12 = .ok (.astore_n 3, 1) := by decide +kernel
theorem d_La_told_13 : decode b_La_told 13 = .ok (.iconst 1, 1) := by decide +kernel
theorem d_La_told_14 : decode b_La_told 14 = .ok (.ireturn, 1) := by decide +kernel
theorem d_La_told_15 : decode b_La_told 15 = .ok (.iconst 0, 1) := by decide +kernel
theorem d_La_told_16 : decode b_La_told 16 = .ok (.ireturn, 1) := by decide +kernel
theorem d_La_law_0 : decode b_La_law 0 = .ok (.new 8, 3) := by decide +kernel
theorem d_La_law_3 : decode b_La_law 3 = .ok (.dup, 1) := by decide +kernel
theorem d_La_law_4 : decode b_La_law 4 = .ok (.invokespecial 40, 3) := by decide +kernel
theorem d_La_law_7 : decode b_La_law 7 = .ok (.astore_n 1, 1) := by decide +kernel
theorem d_La_law_8 : decode b_La_law 8 = .ok (.new 41, 3) := by decide +kernel
theorem d_La_law_11 : decode b_La_law 11 = .ok (.dup, 1) := by decide +kernel
theorem d_La_law_12 : decode b_La_law 12 = .ok (.invokespecial 43, 3) := by decide +kernel
theorem d_La_law_15 : decode b_La_law 15 = .ok (.astore_n 2, 1) := by decide +kernel
theorem d_La_law_16 : decode b_La_law 16 = .ok (.iconst 1, 1) := by decide +kernel
theorem d_La_law_17 : decode b_La_law 17 = .ok (.newarray .long, 2) := by decide +kernel
theorem d_La_law_19 : decode b_La_law 19 = .ok (.astore_n 3, 1) := by decide +kernel
theorem d_La_law_20 : decode b_La_law 20 = .ok (.iconst 0, 1) := by decide +kernel
theorem d_La_law_21 : decode b_La_law 21 = .ok (.istore 4, 2) := by decide +kernel
theorem d_La_law_23 : decode b_La_law 23 = .ok (.iload 4, 2) := by decide +kernel
theorem d_La_law_25 : decode b_La_law 25 = .ok (.aload_n 0, 1) := by decide +kernel
theorem d_La_law_26 : decode b_La_law 26 = .ok (.arraylength, 1) := by decide +kernel
theorem d_La_law_27 : decode b_La_law 27 = .ok (.iconst 4, 1) := by decide +kernel
theorem d_La_law_28 : decode b_La_law 28 = .ok (.isub, 1) := by decide +kernel
theorem d_La_law_29 : decode b_La_law 29 = .ok (.if_icmp .gt 795, 3) := by decide +kernel
theorem d_La_law_32 : decode b_La_law 32 = .ok (.aload_n 0, 1) := by decide +kernel
theorem d_La_law_33 : decode b_La_law 33 = .ok (.iload 4, 2) := by decide +kernel
theorem d_La_law_35 : decode b_La_law 35 = .ok (.iaload, 1) := by decide +kernel
theorem d_La_law_36 : decode b_La_law 36 = .ok (.bipush 15, 2) := by decide +kernel
theorem d_La_law_38 : decode b_La_law 38 = .ok (.iand, 1) := by decide +kernel
theorem d_La_law_39 : decode b_La_law 39 = .ok (.tableswitch 779 0 11 #[61, 118, 234, 350, 418, 474, 530, 586, 642, 667, 723, 765], 61) := by decide +kernel
theorem d_La_law_100 : decode b_La_law 100 = .ok (.aload_n 1, 1) := by decide +kernel
theorem d_La_law_101 : decode b_La_law 101 = .ok (.aload_n 0, 1) := by decide +kernel
theorem d_La_law_102 : decode b_La_law 102 = .ok (.iload 4, 2) := by decide +kernel
theorem d_La_law_104 : decode b_La_law 104 = .ok (.iconst 1, 1) := by decide +kernel
theorem d_La_law_105 : decode b_La_law 105 = .ok (.iadd, 1) := by decide +kernel
theorem d_La_law_106 : decode b_La_law 106 = .ok (.iaload, 1) := by decide +kernel
theorem d_La_law_107 : decode b_La_law 107 = .ok (.i2l, 1) := by decide +kernel
theorem d_La_law_108 : decode b_La_law 108 = .ok (.bipush 32, 2) := by decide +kernel
theorem d_La_law_110 : decode b_La_law 110 = .ok (.lshl, 1) := by decide +kernel
theorem d_La_law_111 : decode b_La_law 111 = .ok (.aload_n 0, 1) := by decide +kernel
theorem d_La_law_112 : decode b_La_law 112 = .ok (.iload 4, 2) := by decide +kernel
theorem d_La_law_114 : decode b_La_law 114 = .ok (.iconst 2, 1) := by decide +kernel
theorem d_La_law_115 : decode b_La_law 115 = .ok (.iadd, 1) := by decide +kernel
theorem d_La_law_116 : decode b_La_law 116 = .ok (.iaload, 1) := by decide +kernel
theorem d_La_law_117 : decode b_La_law 117 = .ok (.i2l, 1) := by decide +kernel
theorem d_La_law_118 : decode b_La_law 118 = .ok (.ldc2_w 44, 3) := by decide +kernel
theorem d_La_law_121 : decode b_La_law 121 = .ok (.land, 1) := by decide +kernel
theorem d_La_law_122 : decode b_La_law 122 = .ok (.lor, 1) := by decide +kernel
theorem d_La_law_123 : decode b_La_law 123 = .ok (.invokevirtual 46, 3) := by decide +kernel
theorem d_La_law_126 : decode b_La_law 126 = .ok (.aload_n 2, 1) := by decide +kernel
theorem d_La_law_127 : decode b_La_law 127 = .ok (.aload_n 0, 1) := by decide +kernel
theorem d_La_law_128 : decode b_La_law 128 = .ok (.iload 4, 2) := by decide +kernel
theorem d_La_law_130 : decode b_La_law 130 = .ok (.iconst 1, 1) := by decide +kernel
theorem d_La_law_131 : decode b_La_law 131 = .ok (.iadd, 1) := by decide +kernel
theorem d_La_law_132 : decode b_La_law 132 = .ok (.iaload, 1) := by decide +kernel
theorem d_La_law_133 : decode b_La_law 133 = .ok (.i2l, 1) := by decide +kernel
theorem d_La_law_134 : decode b_La_law 134 = .ok (.bipush 32, 2) := by decide +kernel
theorem d_La_law_136 : decode b_La_law 136 = .ok (.lshl, 1) := by decide +kernel
theorem d_La_law_137 : decode b_La_law 137 = .ok (.aload_n 0, 1) := by decide +kernel
theorem d_La_law_138 : decode b_La_law 138 = .ok (.iload 4, 2) := by decide +kernel
theorem d_La_law_140 : decode b_La_law 140 = .ok (.iconst 2, 1) := by decide +kernel
theorem d_La_law_141 : decode b_La_law 141 = .ok (.iadd, 1) := by decide +kernel
theorem d_La_law_142 : decode b_La_law 142 = .ok (.iaload, 1) := by decide +kernel
theorem d_La_law_143 : decode b_La_law 143 = .ok (.i2l, 1) := by decide +kernel
theorem d_La_law_144 : decode b_La_law 144 = .ok (.ldc2_w 44, 3) := by decide +kernel
theorem d_La_law_147 : decode b_La_law 147 = .ok (.land, 1) := by decide +kernel
theorem d_La_law_148 : decode b_La_law 148 = .ok (.lor, 1) := by decide +kernel
theorem d_La_law_149 : decode b_La_law 149 = .ok (.invokevirtual 50, 3) := by decide +kernel
theorem d_La_law_152 : decode b_La_law 152 = .ok (.if_icmp .eq 666, 3) := by decide +kernel
theorem d_La_law_155 : decode b_La_law 155 = .ok (.iconst 0, 1) := by decide +kernel
theorem d_La_law_156 : decode b_La_law 156 = .ok (.ireturn, 1) := by decide +kernel
theorem d_La_law_157 : decode b_La_law 157 = .ok (.aload_n 1, 1) := by decide +kernel
theorem d_La_law_158 : decode b_La_law 158 = .ok (.aload_n 0, 1) := by decide +kernel
theorem d_La_law_159 : decode b_La_law 159 = .ok (.iload 4, 2) := by decide +kernel
theorem d_La_law_161 : decode b_La_law 161 = .ok (.iconst 1, 1) := by decide +kernel
theorem d_La_law_162 : decode b_La_law 162 = .ok (.iadd, 1) := by decide +kernel
theorem d_La_law_163 : decode b_La_law 163 = .ok (.iaload, 1) := by decide +kernel
theorem d_La_law_164 : decode b_La_law 164 = .ok (.i2l, 1) := by decide +kernel
theorem d_La_law_165 : decode b_La_law 165 = .ok (.bipush 32, 2) := by decide +kernel
theorem d_La_law_167 : decode b_La_law 167 = .ok (.lshl, 1) := by decide +kernel
theorem d_La_law_168 : decode b_La_law 168 = .ok (.aload_n 0, 1) := by decide +kernel
theorem d_La_law_169 : decode b_La_law 169 = .ok (.iload 4, 2) := by decide +kernel
theorem d_La_law_171 : decode b_La_law 171 = .ok (.iconst 2, 1) := by decide +kernel
theorem d_La_law_172 : decode b_La_law 172 = .ok (.iadd, 1) := by decide +kernel
theorem d_La_law_173 : decode b_La_law 173 = .ok (.iaload, 1) := by decide +kernel
theorem d_La_law_174 : decode b_La_law 174 = .ok (.i2l, 1) := by decide +kernel
theorem d_La_law_175 : decode b_La_law 175 = .ok (.ldc2_w 44, 3) := by decide +kernel
theorem d_La_law_178 : decode b_La_law 178 = .ok (.land, 1) := by decide +kernel
theorem d_La_law_179 : decode b_La_law 179 = .ok (.lor, 1) := by decide +kernel
theorem d_La_law_180 : decode b_La_law 180 = .ok (.aload_n 0, 1) := by decide +kernel
theorem d_La_law_181 : decode b_La_law 181 = .ok (.iload 4, 2) := by decide +kernel
theorem d_La_law_183 : decode b_La_law 183 = .ok (.iconst 3, 1) := by decide +kernel
theorem d_La_law_184 : decode b_La_law 184 = .ok (.iadd, 1) := by decide +kernel
theorem d_La_law_185 : decode b_La_law 185 = .ok (.iaload, 1) := by decide +kernel
theorem d_La_law_186 : decode b_La_law 186 = .ok (.ifCond .eq 7, 3) := by decide +kernel
theorem d_La_law_189 : decode b_La_law 189 = .ok (.iconst 1, 1) := by decide +kernel
theorem d_La_law_190 : decode b_La_law 190 = .ok (.goto 4, 3) := by decide +kernel
theorem d_La_law_193 : decode b_La_law 193 = .ok (.iconst 0, 1) := by decide +kernel
theorem d_La_law_194 : decode b_La_law 194 = .ok (.aload_n 3, 1) := by decide +kernel
theorem d_La_law_195 : decode b_La_law 195 = .ok (.invokestatic 51, 3) := by decide +kernel
theorem d_La_law_198 : decode b_La_law 198 = .ok (.istore 5, 2) := by decide +kernel
theorem d_La_law_200 : decode b_La_law 200 = .ok (.aload_n 2, 1) := by decide +kernel
theorem d_La_law_201 : decode b_La_law 201 = .ok (.aload_n 0, 1) := by decide +kernel
theorem d_La_law_202 : decode b_La_law 202 = .ok (.iload 4, 2) := by decide +kernel
theorem d_La_law_204 : decode b_La_law 204 = .ok (.iconst 1, 1) := by decide +kernel
theorem d_La_law_205 : decode b_La_law 205 = .ok (.iadd, 1) := by decide +kernel
theorem d_La_law_206 : decode b_La_law 206 = .ok (.iaload, 1) := by decide +kernel
theorem d_La_law_207 : decode b_La_law 207 = .ok (.i2l, 1) := by decide +kernel
theorem d_La_law_208 : decode b_La_law 208 = .ok (.bipush 32, 2) := by decide +kernel
theorem d_La_law_210 : decode b_La_law 210 = .ok (.lshl, 1) := by decide +kernel
theorem d_La_law_211 : decode b_La_law 211 = .ok (.aload_n 0, 1) := by decide +kernel
theorem d_La_law_212 : decode b_La_law 212 = .ok (.iload 4, 2) := by decide +kernel
theorem d_La_law_214 : decode b_La_law 214 = .ok (.iconst 2, 1) := by decide +kernel
theorem d_La_law_215 : decode b_La_law 215 = .ok (.iadd, 1) := by decide +kernel
theorem d_La_law_216 : decode b_La_law 216 = .ok (.iaload, 1) := by decide +kernel
theorem d_La_law_217 : decode b_La_law 217 = .ok (.i2l, 1) := by decide +kernel
theorem d_La_law_218 : decode b_La_law 218 = .ok (.ldc2_w 44, 3) := by decide +kernel
theorem d_La_law_221 : decode b_La_law 221 = .ok (.land, 1) := by decide +kernel
theorem d_La_law_222 : decode b_La_law 222 = .ok (.lor, 1) := by decide +kernel
theorem d_La_law_223 : decode b_La_law 223 = .ok (.aload_n 0, 1) := by decide +kernel
theorem d_La_law_224 : decode b_La_law 224 = .ok (.iload 4, 2) := by decide +kernel
theorem d_La_law_226 : decode b_La_law 226 = .ok (.iconst 3, 1) := by decide +kernel
theorem d_La_law_227 : decode b_La_law 227 = .ok (.iadd, 1) := by decide +kernel
theorem d_La_law_228 : decode b_La_law 228 = .ok (.iaload, 1) := by decide +kernel
theorem d_La_law_229 : decode b_La_law 229 = .ok (.ifCond .eq 7, 3) := by decide +kernel
theorem d_La_law_232 : decode b_La_law 232 = .ok (.iconst 1, 1) := by decide +kernel
theorem d_La_law_233 : decode b_La_law 233 = .ok (.goto 4, 3) := by decide +kernel
theorem d_La_law_236 : decode b_La_law 236 = .ok (.iconst 0, 1) := by decide +kernel
theorem d_La_law_237 : decode b_La_law 237 = .ok (.invokevirtual 56, 3) := by decide +kernel
theorem d_La_law_240 : decode b_La_law 240 = .ok (.istore 6, 2) := by decide +kernel
theorem d_La_law_242 : decode b_La_law 242 = .ok (.aload_n 2, 1) := by decide +kernel
theorem d_La_law_243 : decode b_La_law 243 = .ok (.invokevirtual 57, 3) := by decide +kernel
theorem d_La_law_246 : decode b_La_law 246 = .ok (.iload 5, 2) := by decide +kernel
theorem d_La_law_248 : decode b_La_law 248 = .ok (.if_icmp .eq 5, 3) := by decide +kernel
theorem d_La_law_251 : decode b_La_law 251 = .ok (.iconst 0, 1) := by decide +kernel
theorem d_La_law_252 : decode b_La_law 252 = .ok (.ireturn, 1) := by decide +kernel
theorem d_La_law_253 : decode b_La_law 253 = .ok (.iload 5, 2) := by decide +kernel
theorem d_La_law_255 : decode b_La_law 255 = .ok (.ifCond .ne 15, 3) := by decide +kernel
theorem d_La_law_258 : decode b_La_law 258 = .ok (.aload_n 3, 1) := by decide +kernel
theorem d_La_law_259 : decode b_La_law 259 = .ok (.iconst 0, 1) := by decide +kernel
theorem d_La_law_260 : decode b_La_law 260 = .ok (.laload, 1) := by decide +kernel
theorem d_La_law_261 : decode b_La_law 261 = .ok (.iload 6, 2) := by decide +kernel
theorem d_La_law_263 : decode b_La_law 263 = .ok (.i2l, 1) := by decide +kernel
theorem d_La_law_264 : decode b_La_law 264 = .ok (.lcmp, 1) := by decide +kernel
theorem d_La_law_265 : decode b_La_law 265 = .ok (.ifCond .eq 5, 3) := by decide +kernel
theorem d_La_law_268 : decode b_La_law 268 = .ok (.iconst 0, 1) := by decide +kernel
theorem d_La_law_269 : decode b_La_law 269 = .ok (.ireturn, 1) := by decide +kernel
theorem d_La_law_270 : decode b_La_law 270 = .ok (.goto 548, 3) := by decide +kernel
theorem d_La_law_273 : decode b_La_law 273 = .ok (.aload_n 1, 1) := by decide +kernel
theorem d_La_law_274 : decode b_La_law 274 = .ok (.aload_n 0, 1) := by decide +kernel
theorem d_La_law_275 : decode b_La_law 275 = .ok (.iload 4, 2) := by decide +kernel
theorem d_La_law_277 : decode b_La_law 277 = .ok (.iconst 1, 1) := by decide +kernel
theorem d_La_law_278 : decode b_La_law 278 = .ok (.iadd, 1) := by decide +kernel
theorem d_La_law_279 : decode b_La_law 279 = .ok (.iaload, 1) := by decide +kernel
theorem d_La_law_280 : decode b_La_law 280 = .ok (.i2l, 1) := by decide +kernel
theorem d_La_law_281 : decode b_La_law 281 = .ok (.bipush 32, 2) := by decide +kernel
theorem d_La_law_283 : decode b_La_law 283 = .ok (.lshl, 1) := by decide +kernel
theorem d_La_law_284 : decode b_La_law 284 = .ok (.aload_n 0, 1) := by decide +kernel
theorem d_La_law_285 : decode b_La_law 285 = .ok (.iload 4, 2) := by decide +kernel
theorem d_La_law_287 : decode b_La_law 287 = .ok (.iconst 2, 1) := by decide +kernel
theorem d_La_law_288 : decode b_La_law 288 = .ok (.iadd, 1) := by decide +kernel
theorem d_La_law_289 : decode b_La_law 289 = .ok (.iaload, 1) := by decide +kernel
theorem d_La_law_290 : decode b_La_law 290 = .ok (.i2l, 1) := by decide +kernel
theorem d_La_law_291 : decode b_La_law 291 = .ok (.ldc2_w 44, 3) := by decide +kernel
theorem d_La_law_294 : decode b_La_law 294 = .ok (.land, 1) := by decide +kernel
theorem d_La_law_295 : decode b_La_law 295 = .ok (.lor, 1) := by decide +kernel
theorem d_La_law_296 : decode b_La_law 296 = .ok (.aload_n 0, 1) := by decide +kernel
theorem d_La_law_297 : decode b_La_law 297 = .ok (.iload 4, 2) := by decide +kernel
theorem d_La_law_299 : decode b_La_law 299 = .ok (.iconst 3, 1) := by decide +kernel
theorem d_La_law_300 : decode b_La_law 300 = .ok (.iadd, 1) := by decide +kernel
theorem d_La_law_301 : decode b_La_law 301 = .ok (.iaload, 1) := by decide +kernel
theorem d_La_law_302 : decode b_La_law 302 = .ok (.ifCond .eq 7, 3) := by decide +kernel
theorem d_La_law_305 : decode b_La_law 305 = .ok (.iconst 1, 1) := by decide +kernel
theorem d_La_law_306 : decode b_La_law 306 = .ok (.goto 4, 3) := by decide +kernel
theorem d_La_law_309 : decode b_La_law 309 = .ok (.iconst 0, 1) := by decide +kernel
theorem d_La_law_310 : decode b_La_law 310 = .ok (.aload_n 3, 1) := by decide +kernel
theorem d_La_law_311 : decode b_La_law 311 = .ok (.invokestatic 61, 3) := by decide +kernel
theorem d_La_law_314 : decode b_La_law 314 = .ok (.istore 5, 2) := by decide +kernel
theorem d_La_law_316 : decode b_La_law 316 = .ok (.aload_n 2, 1) := by decide +kernel
theorem d_La_law_317 : decode b_La_law 317 = .ok (.aload_n 0, 1) := by decide +kernel
theorem d_La_law_318 : decode b_La_law 318 = .ok (.iload 4, 2) := by decide +kernel
theorem d_La_law_320 : decode b_La_law 320 = .ok (.iconst 1, 1) := by decide +kernel
theorem d_La_law_321 : decode b_La_law 321 = .ok (.iadd, 1) := by decide +kernel
theorem d_La_law_322 : decode b_La_law 322 = .ok (.iaload, 1) := by decide +kernel
theorem d_La_law_323 : decode b_La_law 323 = .ok (.i2l, 1) := by decide +kernel
theorem d_La_law_324 : decode b_La_law 324 = .ok (.bipush 32, 2) := by decide +kernel
theorem d_La_law_326 : decode b_La_law 326 = .ok (.lshl, 1) := by decide +kernel
theorem d_La_law_327 : decode b_La_law 327 = .ok (.aload_n 0, 1) := by decide +kernel
theorem d_La_law_328 : decode b_La_law 328 = .ok (.iload 4, 2) := by decide +kernel
theorem d_La_law_330 : decode b_La_law 330 = .ok (.iconst 2, 1) := by decide +kernel
theorem d_La_law_331 : decode b_La_law 331 = .ok (.iadd, 1) := by decide +kernel
theorem d_La_law_332 : decode b_La_law 332 = .ok (.iaload, 1) := by decide +kernel
theorem d_La_law_333 : decode b_La_law 333 = .ok (.i2l, 1) := by decide +kernel
theorem d_La_law_334 : decode b_La_law 334 = .ok (.ldc2_w 44, 3) := by decide +kernel
theorem d_La_law_337 : decode b_La_law 337 = .ok (.land, 1) := by decide +kernel
theorem d_La_law_338 : decode b_La_law 338 = .ok (.lor, 1) := by decide +kernel
theorem d_La_law_339 : decode b_La_law 339 = .ok (.aload_n 0, 1) := by decide +kernel
theorem d_La_law_340 : decode b_La_law 340 = .ok (.iload 4, 2) := by decide +kernel
theorem d_La_law_342 : decode b_La_law 342 = .ok (.iconst 3, 1) := by decide +kernel
theorem d_La_law_343 : decode b_La_law 343 = .ok (.iadd, 1) := by decide +kernel
theorem d_La_law_344 : decode b_La_law 344 = .ok (.iaload, 1) := by decide +kernel
theorem d_La_law_345 : decode b_La_law 345 = .ok (.ifCond .eq 7, 3) := by decide +kernel
theorem d_La_law_348 : decode b_La_law 348 = .ok (.iconst 1, 1) := by decide +kernel
theorem d_La_law_349 : decode b_La_law 349 = .ok (.goto 4, 3) := by decide +kernel
theorem d_La_law_352 : decode b_La_law 352 = .ok (.iconst 0, 1) := by decide +kernel
theorem d_La_law_353 : decode b_La_law 353 = .ok (.invokevirtual 63, 3) := by decide +kernel
theorem d_La_law_356 : decode b_La_law 356 = .ok (.istore 6, 2) := by decide +kernel
theorem d_La_law_358 : decode b_La_law 358 = .ok (.aload_n 2, 1) := by decide +kernel
theorem d_La_law_359 : decode b_La_law 359 = .ok (.invokevirtual 57, 3) := by decide +kernel
theorem d_La_law_362 : decode b_La_law 362 = .ok (.iload 5, 2) := by decide +kernel
theorem d_La_law_364 : decode b_La_law 364 = .ok (.if_icmp .eq 5, 3) := by decide +kernel
theorem d_La_law_367 : decode b_La_law 367 = .ok (.iconst 0, 1) := by decide +kernel
theorem d_La_law_368 : decode b_La_law 368 = .ok (.ireturn, 1) := by decide +kernel
theorem d_La_law_369 : decode b_La_law 369 = .ok (.iload 5, 2) := by decide +kernel
theorem d_La_law_371 : decode b_La_law 371 = .ok (.ifCond .ne 15, 3) := by decide +kernel
theorem d_La_law_374 : decode b_La_law 374 = .ok (.aload_n 3, 1) := by decide +kernel
theorem d_La_law_375 : decode b_La_law 375 = .ok (.iconst 0, 1) := by decide +kernel
theorem d_La_law_376 : decode b_La_law 376 = .ok (.laload, 1) := by decide +kernel
theorem d_La_law_377 : decode b_La_law 377 = .ok (.iload 6, 2) := by decide +kernel
theorem d_La_law_379 : decode b_La_law 379 = .ok (.i2l, 1) := by decide +kernel
theorem d_La_law_380 : decode b_La_law 380 = .ok (.lcmp, 1) := by decide +kernel
theorem d_La_law_381 : decode b_La_law 381 = .ok (.ifCond .eq 5, 3) := by decide +kernel
theorem d_La_law_384 : decode b_La_law 384 = .ok (.iconst 0, 1) := by decide +kernel
theorem d_La_law_385 : decode b_La_law 385 = .ok (.ireturn, 1) := by decide +kernel
theorem d_La_law_386 : decode b_La_law 386 = .ok (.goto 432, 3) := by decide +kernel
theorem d_La_law_389 : decode b_La_law 389 = .ok (.aload_n 1, 1) := by decide +kernel
theorem d_La_law_390 : decode b_La_law 390 = .ok (.aload_n 0, 1) := by decide +kernel
theorem d_La_law_391 : decode b_La_law 391 = .ok (.iload 4, 2) := by decide +kernel
theorem d_La_law_393 : decode b_La_law 393 = .ok (.iconst 1, 1) := by decide +kernel
theorem d_La_law_394 : decode b_La_law 394 = .ok (.iadd, 1) := by decide +kernel
theorem d_La_law_395 : decode b_La_law 395 = .ok (.iaload, 1) := by decide +kernel
theorem d_La_law_396 : decode b_La_law 396 = .ok (.aload_n 0, 1) := by decide +kernel
theorem d_La_law_397 : decode b_La_law 397 = .ok (.iload 4, 2) := by decide +kernel
theorem d_La_law_399 : decode b_La_law 399 = .ok (.iconst 2, 1) := by decide +kernel
theorem d_La_law_400 : decode b_La_law 400 = .ok (.iadd, 1) := by decide +kernel
theorem d_La_law_401 : decode b_La_law 401 = .ok (.iaload, 1) := by decide +kernel
theorem d_La_law_402 : decode b_La_law 402 = .ok (.aload_n 3, 1) := by decide +kernel
theorem d_La_law_403 : decode b_La_law 403 = .ok (.invokestatic 64, 3) := by decide +kernel
theorem d_La_law_406 : decode b_La_law 406 = .ok (.istore 5, 2) := by decide +kernel
theorem d_La_law_408 : decode b_La_law 408 = .ok (.aload_n 2, 1) := by decide +kernel
theorem d_La_law_409 : decode b_La_law 409 = .ok (.aload_n 0, 1) := by decide +kernel
theorem d_La_law_410 : decode b_La_law 410 = .ok (.iload 4, 2) := by decide +kernel
theorem d_La_law_412 : decode b_La_law 412 = .ok (.iconst 1, 1) := by decide +kernel
theorem d_La_law_413 : decode b_La_law 413 = .ok (.iadd, 1) := by decide +kernel
theorem d_La_law_414 : decode b_La_law 414 = .ok (.iaload, 1) := by decide +kernel
theorem d_La_law_415 : decode b_La_law 415 = .ok (.aload_n 0, 1) := by decide +kernel
theorem d_La_law_416 : decode b_La_law 416 = .ok (.iload 4, 2) := by decide +kernel
theorem d_La_law_418 : decode b_La_law 418 = .ok (.iconst 2, 1) := by decide +kernel
theorem d_La_law_419 : decode b_La_law 419 = .ok (.iadd, 1) := by decide +kernel
theorem d_La_law_420 : decode b_La_law 420 = .ok (.iaload, 1) := by decide +kernel
theorem d_La_law_421 : decode b_La_law 421 = .ok (.invokevirtual 67, 3) := by decide +kernel
theorem d_La_law_424 : decode b_La_law 424 = .ok (.istore 6, 2) := by decide +kernel
theorem d_La_law_426 : decode b_La_law 426 = .ok (.aload_n 2, 1) := by decide +kernel
theorem d_La_law_427 : decode b_La_law 427 = .ok (.invokevirtual 57, 3) := by decide +kernel
theorem d_La_law_430 : decode b_La_law 430 = .ok (.iload 5, 2) := by decide +kernel
theorem d_La_law_432 : decode b_La_law 432 = .ok (.if_icmp .eq 5, 3) := by decide +kernel
theorem d_La_law_435 : decode b_La_law 435 = .ok (.iconst 0, 1) := by decide +kernel
theorem d_La_law_436 : decode b_La_law 436 = .ok (.ireturn, 1) := by decide +kernel
theorem d_La_law_437 : decode b_La_law 437 = .ok (.iload 5, 2) := by decide +kernel
theorem d_La_law_439 : decode b_La_law 439 = .ok (.ifCond .ne 15, 3) := by decide +kernel
theorem d_La_law_442 : decode b_La_law 442 = .ok (.aload_n 3, 1) := by decide +kernel
theorem d_La_law_443 : decode b_La_law 443 = .ok (.iconst 0, 1) := by decide +kernel
theorem d_La_law_444 : decode b_La_law 444 = .ok (.laload, 1) := by decide +kernel
theorem d_La_law_445 : decode b_La_law 445 = .ok (.iload 6, 2) := by decide +kernel
theorem d_La_law_447 : decode b_La_law 447 = .ok (.i2l, 1) := by decide +kernel
theorem d_La_law_448 : decode b_La_law 448 = .ok (.lcmp, 1) := by decide +kernel
theorem d_La_law_449 : decode b_La_law 449 = .ok (.ifCond .eq 5, 3) := by decide +kernel
theorem d_La_law_452 : decode b_La_law 452 = .ok (.iconst 0, 1) := by decide +kernel
theorem d_La_law_453 : decode b_La_law 453 = .ok (.ireturn, 1) := by decide +kernel
theorem d_La_law_454 : decode b_La_law 454 = .ok (.goto 364, 3) := by decide +kernel
theorem d_La_law_457 : decode b_La_law 457 = .ok (.aload_n 1, 1) := by decide +kernel
theorem d_La_law_458 : decode b_La_law 458 = .ok (.aload_n 0, 1) := by decide +kernel
theorem d_La_law_459 : decode b_La_law 459 = .ok (.iload 4, 2) := by decide +kernel
theorem d_La_law_461 : decode b_La_law 461 = .ok (.iconst 1, 1) := by decide +kernel
theorem d_La_law_462 : decode b_La_law 462 = .ok (.iadd, 1) := by decide +kernel
theorem d_La_law_463 : decode b_La_law 463 = .ok (.iaload, 1) := by decide +kernel
theorem d_La_law_464 : decode b_La_law 464 = .ok (.aload_n 3, 1) := by decide +kernel
theorem d_La_law_465 : decode b_La_law 465 = .ok (.invokestatic 68, 3) := by decide +kernel
theorem d_La_law_468 : decode b_La_law 468 = .ok (.istore 5, 2) := by decide +kernel
theorem d_La_law_470 : decode b_La_law 470 = .ok (.aload_n 2, 1) := by decide +kernel
theorem d_La_law_471 : decode b_La_law 471 = .ok (.aload_n 0, 1) := by decide +kernel
theorem d_La_law_472 : decode b_La_law 472 = .ok (.iload 4, 2) := by decide +kernel
theorem d_La_law_474 : decode b_La_law 474 = .ok (.iconst 1, 1) := by decide +kernel
theorem d_La_law_475 : decode b_La_law 475 = .ok (.iadd, 1) := by decide +kernel
theorem d_La_law_476 : decode b_La_law 476 = .ok (.iaload, 1) := by decide +kernel
theorem d_La_law_477 : decode b_La_law 477 = .ok (.invokevirtual 71, 3) := by decide +kernel
theorem d_La_law_480 : decode b_La_law 480 = .ok (.istore 6, 2) := by decide +kernel
theorem d_La_law_482 : decode b_La_law 482 = .ok (.aload_n 2, 1) := by decide +kernel
theorem d_La_law_483 : decode b_La_law 483 = .ok (.invokevirtual 57, 3) := by decide +kernel
theorem d_La_law_486 : decode b_La_law 486 = .ok (.iload 5, 2) := by decide +kernel
theorem d_La_law_488 : decode b_La_law 488 = .ok (.if_icmp .eq 5, 3) := by decide +kernel
theorem d_La_law_491 : decode b_La_law 491 = .ok (.iconst 0, 1) := by decide +kernel
theorem d_La_law_492 : decode b_La_law 492 = .ok (.ireturn, 1) := by decide +kernel
theorem d_La_law_493 : decode b_La_law 493 = .ok (.iload 5, 2) := by decide +kernel
theorem d_La_law_495 : decode b_La_law 495 = .ok (.ifCond .ne 15, 3) := by decide +kernel
theorem d_La_law_498 : decode b_La_law 498 = .ok (.aload_n 3, 1) := by decide +kernel
theorem d_La_law_499 : decode b_La_law 499 = .ok (.iconst 0, 1) := by decide +kernel
theorem d_La_law_500 : decode b_La_law 500 = .ok (.laload, 1) := by decide +kernel
theorem d_La_law_501 : decode b_La_law 501 = .ok (.iload 6, 2) := by decide +kernel
theorem d_La_law_503 : decode b_La_law 503 = .ok (.i2l, 1) := by decide +kernel
theorem d_La_law_504 : decode b_La_law 504 = .ok (.lcmp, 1) := by decide +kernel
theorem d_La_law_505 : decode b_La_law 505 = .ok (.ifCond .eq 5, 3) := by decide +kernel
theorem d_La_law_508 : decode b_La_law 508 = .ok (.iconst 0, 1) := by decide +kernel
theorem d_La_law_509 : decode b_La_law 509 = .ok (.ireturn, 1) := by decide +kernel
theorem d_La_law_510 : decode b_La_law 510 = .ok (.goto 308, 3) := by decide +kernel
theorem d_La_law_513 : decode b_La_law 513 = .ok (.aload_n 1, 1) := by decide +kernel
theorem d_La_law_514 : decode b_La_law 514 = .ok (.aload_n 0, 1) := by decide +kernel
theorem d_La_law_515 : decode b_La_law 515 = .ok (.iload 4, 2) := by decide +kernel
theorem d_La_law_517 : decode b_La_law 517 = .ok (.iconst 1, 1) := by decide +kernel
theorem d_La_law_518 : decode b_La_law 518 = .ok (.iadd, 1) := by decide +kernel
theorem d_La_law_519 : decode b_La_law 519 = .ok (.iaload, 1) := by decide +kernel
theorem d_La_law_520 : decode b_La_law 520 = .ok (.aload_n 3, 1) := by decide +kernel
theorem d_La_law_521 : decode b_La_law 521 = .ok (.invokestatic 72, 3) := by decide +kernel
theorem d_La_law_524 : decode b_La_law 524 = .ok (.istore 5, 2) := by decide +kernel
theorem d_La_law_526 : decode b_La_law 526 = .ok (.aload_n 2, 1) := by decide +kernel
theorem d_La_law_527 : decode b_La_law 527 = .ok (.aload_n 0, 1) := by decide +kernel
theorem d_La_law_528 : decode b_La_law 528 = .ok (.iload 4, 2) := by decide +kernel
theorem d_La_law_530 : decode b_La_law 530 = .ok (.iconst 1, 1) := by decide +kernel
theorem d_La_law_531 : decode b_La_law 531 = .ok (.iadd, 1) := by decide +kernel
theorem d_La_law_532 : decode b_La_law 532 = .ok (.iaload, 1) := by decide +kernel
theorem d_La_law_533 : decode b_La_law 533 = .ok (.invokevirtual 74, 3) := by decide +kernel
theorem d_La_law_536 : decode b_La_law 536 = .ok (.istore 6, 2) := by decide +kernel
theorem d_La_law_538 : decode b_La_law 538 = .ok (.aload_n 2, 1) := by decide +kernel
theorem d_La_law_539 : decode b_La_law 539 = .ok (.invokevirtual 57, 3) := by decide +kernel
theorem d_La_law_542 : decode b_La_law 542 = .ok (.iload 5, 2) := by decide +kernel
theorem d_La_law_544 : decode b_La_law 544 = .ok (.if_icmp .eq 5, 3) := by decide +kernel
theorem d_La_law_547 : decode b_La_law 547 = .ok (.iconst 0, 1) := by decide +kernel
theorem d_La_law_548 : decode b_La_law 548 = .ok (.ireturn, 1) := by decide +kernel
theorem d_La_law_549 : decode b_La_law 549 = .ok (.iload 5, 2) := by decide +kernel
theorem d_La_law_551 : decode b_La_law 551 = .ok (.ifCond .ne 15, 3) := by decide +kernel
theorem d_La_law_554 : decode b_La_law 554 = .ok (.aload_n 3, 1) := by decide +kernel
theorem d_La_law_555 : decode b_La_law 555 = .ok (.iconst 0, 1) := by decide +kernel
theorem d_La_law_556 : decode b_La_law 556 = .ok (.laload, 1) := by decide +kernel
theorem d_La_law_557 : decode b_La_law 557 = .ok (.iload 6, 2) := by decide +kernel
theorem d_La_law_559 : decode b_La_law 559 = .ok (.i2l, 1) := by decide +kernel
theorem d_La_law_560 : decode b_La_law 560 = .ok (.lcmp, 1) := by decide +kernel
theorem d_La_law_561 : decode b_La_law 561 = .ok (.ifCond .eq 5, 3) := by decide +kernel
theorem d_La_law_564 : decode b_La_law 564 = .ok (.iconst 0, 1) := by decide +kernel
theorem d_La_law_565 : decode b_La_law 565 = .ok (.ireturn, 1) := by decide +kernel
theorem d_La_law_566 : decode b_La_law 566 = .ok (.goto 252, 3) := by decide +kernel
theorem d_La_law_569 : decode b_La_law 569 = .ok (.aload_n 1, 1) := by decide +kernel
theorem d_La_law_570 : decode b_La_law 570 = .ok (.aload_n 0, 1) := by decide +kernel
theorem d_La_law_571 : decode b_La_law 571 = .ok (.iload 4, 2) := by decide +kernel
theorem d_La_law_573 : decode b_La_law 573 = .ok (.iconst 1, 1) := by decide +kernel
theorem d_La_law_574 : decode b_La_law 574 = .ok (.iadd, 1) := by decide +kernel
theorem d_La_law_575 : decode b_La_law 575 = .ok (.iaload, 1) := by decide +kernel
theorem d_La_law_576 : decode b_La_law 576 = .ok (.aload_n 3, 1) := by decide +kernel
theorem d_La_law_577 : decode b_La_law 577 = .ok (.invokestatic 75, 3) := by decide +kernel
theorem d_La_law_580 : decode b_La_law 580 = .ok (.istore 5, 2) := by decide +kernel
theorem d_La_law_582 : decode b_La_law 582 = .ok (.aload_n 2, 1) := by decide +kernel
theorem d_La_law_583 : decode b_La_law 583 = .ok (.aload_n 0, 1) := by decide +kernel
theorem d_La_law_584 : decode b_La_law 584 = .ok (.iload 4, 2) := by decide +kernel
theorem d_La_law_586 : decode b_La_law 586 = .ok (.iconst 1, 1) := by decide +kernel
theorem d_La_law_587 : decode b_La_law 587 = .ok (.iadd, 1) := by decide +kernel
theorem d_La_law_588 : decode b_La_law 588 = .ok (.iaload, 1) := by decide +kernel
theorem d_La_law_589 : decode b_La_law 589 = .ok (.invokevirtual 77, 3) := by decide +kernel
theorem d_La_law_592 : decode b_La_law 592 = .ok (.istore 6, 2) := by decide +kernel
theorem d_La_law_594 : decode b_La_law 594 = .ok (.aload_n 2, 1) := by decide +kernel
theorem d_La_law_595 : decode b_La_law 595 = .ok (.invokevirtual 57, 3) := by decide +kernel
theorem d_La_law_598 : decode b_La_law 598 = .ok (.iload 5, 2) := by decide +kernel
theorem d_La_law_600 : decode b_La_law 600 = .ok (.if_icmp .eq 5, 3) := by decide +kernel
theorem d_La_law_603 : decode b_La_law 603 = .ok (.iconst 0, 1) := by decide +kernel
theorem d_La_law_604 : decode b_La_law 604 = .ok (.ireturn, 1) := by decide +kernel
theorem d_La_law_605 : decode b_La_law 605 = .ok (.iload 5, 2) := by decide +kernel
theorem d_La_law_607 : decode b_La_law 607 = .ok (.ifCond .ne 15, 3) := by decide +kernel
theorem d_La_law_610 : decode b_La_law 610 = .ok (.aload_n 3, 1) := by decide +kernel
theorem d_La_law_611 : decode b_La_law 611 = .ok (.iconst 0, 1) := by decide +kernel
theorem d_La_law_612 : decode b_La_law 612 = .ok (.laload, 1) := by decide +kernel
theorem d_La_law_613 : decode b_La_law 613 = .ok (.iload 6, 2) := by decide +kernel
theorem d_La_law_615 : decode b_La_law 615 = .ok (.i2l, 1) := by decide +kernel
theorem d_La_law_616 : decode b_La_law 616 = .ok (.lcmp, 1) := by decide +kernel
theorem d_La_law_617 : decode b_La_law 617 = .ok (.ifCond .eq 5, 3) := by decide +kernel
theorem d_La_law_620 : decode b_La_law 620 = .ok (.iconst 0, 1) := by decide +kernel
theorem d_La_law_621 : decode b_La_law 621 = .ok (.ireturn, 1) := by decide +kernel
theorem d_La_law_622 : decode b_La_law 622 = .ok (.goto 196, 3) := by decide +kernel
theorem d_La_law_625 : decode b_La_law 625 = .ok (.aload_n 1, 1) := by decide +kernel
theorem d_La_law_626 : decode b_La_law 626 = .ok (.aload_n 0, 1) := by decide +kernel
theorem d_La_law_627 : decode b_La_law 627 = .ok (.iload 4, 2) := by decide +kernel
theorem d_La_law_629 : decode b_La_law 629 = .ok (.iconst 1, 1) := by decide +kernel
theorem d_La_law_630 : decode b_La_law 630 = .ok (.iadd, 1) := by decide +kernel
theorem d_La_law_631 : decode b_La_law 631 = .ok (.iaload, 1) := by decide +kernel
theorem d_La_law_632 : decode b_La_law 632 = .ok (.aload_n 3, 1) := by decide +kernel
theorem d_La_law_633 : decode b_La_law 633 = .ok (.invokestatic 78, 3) := by decide +kernel
theorem d_La_law_636 : decode b_La_law 636 = .ok (.istore 5, 2) := by decide +kernel
theorem d_La_law_638 : decode b_La_law 638 = .ok (.aload_n 2, 1) := by decide +kernel
theorem d_La_law_639 : decode b_La_law 639 = .ok (.aload_n 0, 1) := by decide +kernel
theorem d_La_law_640 : decode b_La_law 640 = .ok (.iload 4, 2) := by decide +kernel
theorem d_La_law_642 : decode b_La_law 642 = .ok (.iconst 1, 1) := by decide +kernel
theorem d_La_law_643 : decode b_La_law 643 = .ok (.iadd, 1) := by decide +kernel
theorem d_La_law_644 : decode b_La_law 644 = .ok (.iaload, 1) := by decide +kernel
theorem d_La_law_645 : decode b_La_law 645 = .ok (.invokevirtual 80, 3) := by decide +kernel
theorem d_La_law_648 : decode b_La_law 648 = .ok (.istore 6, 2) := by decide +kernel
theorem d_La_law_650 : decode b_La_law 650 = .ok (.aload_n 2, 1) := by decide +kernel
theorem d_La_law_651 : decode b_La_law 651 = .ok (.invokevirtual 57, 3) := by decide +kernel
theorem d_La_law_654 : decode b_La_law 654 = .ok (.iload 5, 2) := by decide +kernel
theorem d_La_law_656 : decode b_La_law 656 = .ok (.if_icmp .eq 5, 3) := by decide +kernel
theorem d_La_law_659 : decode b_La_law 659 = .ok (.iconst 0, 1) := by decide +kernel
theorem d_La_law_660 : decode b_La_law 660 = .ok (.ireturn, 1) := by decide +kernel
theorem d_La_law_661 : decode b_La_law 661 = .ok (.iload 5, 2) := by decide +kernel
theorem d_La_law_663 : decode b_La_law 663 = .ok (.ifCond .ne 15, 3) := by decide +kernel
theorem d_La_law_666 : decode b_La_law 666 = .ok (.aload_n 3, 1) := by decide +kernel
theorem d_La_law_667 : decode b_La_law 667 = .ok (.iconst 0, 1) := by decide +kernel
theorem d_La_law_668 : decode b_La_law 668 = .ok (.laload, 1) := by decide +kernel
theorem d_La_law_669 : decode b_La_law 669 = .ok (.iload 6, 2) := by decide +kernel
theorem d_La_law_671 : decode b_La_law 671 = .ok (.i2l, 1) := by decide +kernel
theorem d_La_law_672 : decode b_La_law 672 = .ok (.lcmp, 1) := by decide +kernel
theorem d_La_law_673 : decode b_La_law 673 = .ok (.ifCond .eq 5, 3) := by decide +kernel
theorem d_La_law_676 : decode b_La_law 676 = .ok (.iconst 0, 1) := by decide +kernel
theorem d_La_law_677 : decode b_La_law 677 = .ok (.ireturn, 1) := by decide +kernel
theorem d_La_law_678 : decode b_La_law 678 = .ok (.goto 140, 3) := by decide +kernel
theorem d_La_law_681 : decode b_La_law 681 = .ok (.aload_n 1, 1) := by decide +kernel
theorem d_La_law_682 : decode b_La_law 682 = .ok (.aload_n 0, 1) := by decide +kernel
theorem d_La_law_683 : decode b_La_law 683 = .ok (.iload 4, 2) := by decide +kernel
theorem d_La_law_685 : decode b_La_law 685 = .ok (.iconst 1, 1) := by decide +kernel
theorem d_La_law_686 : decode b_La_law 686 = .ok (.iadd, 1) := by decide +kernel
theorem d_La_law_687 : decode b_La_law 687 = .ok (.iaload, 1) := by decide +kernel
theorem d_La_law_688 : decode b_La_law 688 = .ok (.invokevirtual 81, 3) := by decide +kernel
theorem d_La_law_691 : decode b_La_law 691 = .ok (.aload_n 2, 1) := by decide +kernel
theorem d_La_law_692 : decode b_La_law 692 = .ok (.aload_n 0, 1) := by decide +kernel
theorem d_La_law_693 : decode b_La_law 693 = .ok (.iload 4, 2) := by decide +kernel
theorem d_La_law_695 : decode b_La_law 695 = .ok (.iconst 1, 1) := by decide +kernel
theorem d_La_law_696 : decode b_La_law 696 = .ok (.iadd, 1) := by decide +kernel
theorem d_La_law_697 : decode b_La_law 697 = .ok (.iaload, 1) := by decide +kernel
theorem d_La_law_698 : decode b_La_law 698 = .ok (.invokevirtual 84, 3) := by decide +kernel
theorem d_La_law_701 : decode b_La_law 701 = .ok (.if_icmp .eq 117, 3) := by decide +kernel
theorem d_La_law_704 : decode b_La_law 704 = .ok (.iconst 0, 1) := by decide +kernel
theorem d_La_law_705 : decode b_La_law 705 = .ok (.ireturn, 1) := by decide +kernel
theorem d_La_law_706 : decode b_La_law 706 = .ok (.aload_n 1, 1) := by decide +kernel
theorem d_La_law_707 : decode b_La_law 707 = .ok (.aload_n 0, 1) := by decide +kernel
theorem d_La_law_708 : decode b_La_law 708 = .ok (.iload 4, 2) := by decide +kernel
theorem d_La_law_710 : decode b_La_law 710 = .ok (.iconst 1, 1) := by decide +kernel
theorem d_La_law_711 : decode b_La_law 711 = .ok (.iadd, 1) := by decide +kernel
theorem d_La_law_712 : decode b_La_law 712 = .ok (.iaload, 1) := by decide +kernel
theorem d_La_law_713 : decode b_La_law 713 = .ok (.aload_n 3, 1) := by decide +kernel
theorem d_La_law_714 : decode b_La_law 714 = .ok (.invokestatic 85, 3) := by decide +kernel
theorem d_La_law_717 : decode b_La_law 717 = .ok (.istore 5, 2) := by decide +kernel
theorem d_La_law_719 : decode b_La_law 719 = .ok (.aload_n 2, 1) := by decide +kernel
theorem d_La_law_720 : decode b_La_law 720 = .ok (.aload_n 0, 1) := by decide +kernel
theorem d_La_law_721 : decode b_La_law 721 = .ok (.iload 4, 2) := by decide +kernel
theorem d_La_law_723 : decode b_La_law 723 = .ok (.iconst 1, 1) := by decide +kernel
theorem d_La_law_724 : decode b_La_law 724 = .ok (.iadd, 1) := by decide +kernel
theorem d_La_law_725 : decode b_La_law 725 = .ok (.iaload, 1) := by decide +kernel
theorem d_La_law_726 : decode b_La_law 726 = .ok (.invokevirtual 87, 3) := by decide +kernel
theorem d_La_law_729 : decode b_La_law 729 = .ok (.istore 6, 2) := by decide +kernel
theorem d_La_law_731 : decode b_La_law 731 = .ok (.aload_n 2, 1) := by decide +kernel
theorem d_La_law_732 : decode b_La_law 732 = .ok (.invokevirtual 57, 3) := by decide +kernel
theorem d_La_law_735 : decode b_La_law 735 = .ok (.iload 5, 2) := by decide +kernel
theorem d_La_law_737 : decode b_La_law 737 = .ok (.if_icmp .eq 5, 3) := by decide +kernel
theorem d_La_law_740 : decode b_La_law 740 = .ok (.iconst 0, 1) := by decide +kernel
theorem d_La_law_741 : decode b_La_law 741 = .ok (.ireturn, 1) := by decide +kernel
theorem d_La_law_742 : decode b_La_law 742 = .ok (.iload 5, 2) := by decide +kernel
theorem d_La_law_744 : decode b_La_law 744 = .ok (.ifCond .ne 15, 3) := by decide +kernel
theorem d_La_law_747 : decode b_La_law 747 = .ok (.aload_n 3, 1) := by decide +kernel
theorem d_La_law_748 : decode b_La_law 748 = .ok (.iconst 0, 1) := by decide +kernel
theorem d_La_law_749 : decode b_La_law 749 = .ok (.laload, 1) := by decide +kernel
theorem d_La_law_750 : decode b_La_law 750 = .ok (.iload 6, 2) := by decide +kernel
theorem d_La_law_752 : decode b_La_law 752 = .ok (.i2l, 1) := by decide +kernel
theorem d_La_law_753 : decode b_La_law 753 = .ok (.lcmp, 1) := by decide +kernel
theorem d_La_law_754 : decode b_La_law 754 = .ok (.ifCond .eq 5, 3) := by decide +kernel
theorem d_La_law_757 : decode b_La_law 757 = .ok (.iconst 0, 1) := by decide +kernel
theorem d_La_law_758 : decode b_La_law 758 = .ok (.ireturn, 1) := by decide +kernel
theorem d_La_law_759 : decode b_La_law 759 = .ok (.goto 59, 3) := by decide +kernel
theorem d_La_law_762 : decode b_La_law 762 = .ok (.aload_n 1, 1) := by decide +kernel
theorem d_La_law_763 : decode b_La_law 763 = .ok (.aload_n 0, 1) := by decide +kernel
theorem d_La_law_764 : decode b_La_law 764 = .ok (.iload 4, 2) := by decide +kernel
theorem d_La_law_766 : decode b_La_law 766 = .ok (.iconst 1, 1) := by decide +kernel
theorem d_La_law_767 : decode b_La_law 767 = .ok (.iadd, 1) := by decide +kernel
theorem d_La_law_768 : decode b_La_law 768 = .ok (.iaload, 1) := by decide +kernel
theorem d_La_law_769 : decode b_La_law 769 = .ok (.ifCond .eq 7, 3) := by decide +kernel
theorem d_La_law_772 : decode b_La_law 772 = .ok (.iconst 1, 1) := by decide +kernel
theorem d_La_law_773 : decode b_La_law 773 = .ok (.goto 4, 3) := by decide +kernel
theorem d_La_law_776 : decode b_La_law 776 = .ok (.iconst 0, 1) := by decide +kernel
theorem d_La_law_777 : decode b_La_law 777 = .ok (.invokevirtual 88, 3) := by decide +kernel
theorem d_La_law_780 : decode b_La_law 780 = .ok (.aload_n 2, 1) := by decide +kernel
theorem d_La_law_781 : decode b_La_law 781 = .ok (.aload_n 0, 1) := by decide +kernel
theorem d_La_law_782 : decode b_La_law 782 = .ok (.iload 4, 2) := by decide +kernel
theorem d_La_law_784 : decode b_La_law 784 = .ok (.iconst 1, 1) := by decide +kernel
theorem d_La_law_785 : decode b_La_law 785 = .ok (.iadd, 1) := by decide +kernel
theorem d_La_law_786 : decode b_La_law 786 = .ok (.iaload, 1) := by decide +kernel
theorem d_La_law_787 : decode b_La_law 787 = .ok (.ifCond .eq 7, 3) := by decide +kernel
theorem d_La_law_790 : decode b_La_law 790 = .ok (.iconst 1, 1) := by decide +kernel
theorem d_La_law_791 : decode b_La_law 791 = .ok (.goto 4, 3) := by decide +kernel
theorem d_La_law_794 : decode b_La_law 794 = .ok (.iconst 0, 1) := by decide +kernel
theorem d_La_law_795 : decode b_La_law 795 = .ok (.invokevirtual 92, 3) := by decide +kernel
theorem d_La_law_798 : decode b_La_law 798 = .ok (.lcmp, 1) := by decide +kernel
theorem d_La_law_799 : decode b_La_law 799 = .ok (.ifCond .eq 19, 3) := by decide +kernel
theorem d_La_law_802 : decode b_La_law 802 = .ok (.iconst 0, 1) := by decide +kernel
theorem d_La_law_803 : decode b_La_law 803 = .ok (.ireturn, 1) := by decide +kernel
theorem d_La_law_804 : decode b_La_law 804 = .ok (.aload_n 1, 1) := by decide +kernel
theorem d_La_law_805 : decode b_La_law 805 = .ok (.invokevirtual 93, 3) := by decide +kernel
theorem d_La_law_808 : decode b_La_law 808 = .ok (.aload_n 2, 1) := by decide +kernel
theorem d_La_law_809 : decode b_La_law 809 = .ok (.invokevirtual 97, 3) := by decide +kernel
theorem d_La_law_812 : decode b_La_law 812 = .ok (.lcmp, 1) := by decide +kernel
theorem d_La_law_813 : decode b_La_law 813 = .ok (.ifCond .eq 5, 3) := by decide +kernel
theorem d_La_law_816 : decode b_La_law 816 = .ok (.iconst 0, 1) := by decide +kernel
theorem d_La_law_817 : decode b_La_law 817 = .ok (.ireturn, 1) := by decide +kernel
theorem d_La_law_818 : decode b_La_law 818 = .ok (.iinc 4 4, 3) := by decide +kernel
theorem d_La_law_821 : decode b_La_law 821 = .ok (.goto (-798), 3) := by decide +kernel
theorem d_La_law_824 : decode b_La_law 824 = .ok (.iconst 1, 1) := by decide +kernel
theorem d_La_law_825 : decode b_La_law 825 = .ok (.ireturn, 1) := by decide +kernel
end
section
theorem d_Lo_divideUnsigned_0 : decode b_Lo_divideUnsigned 0 = .ok (.lload_n 2, 1) := by decide +kernel
theorem d_Lo_divideUnsigned_1 : decode b_Lo_divideUnsigned 1 = .ok (.lconst 0, 1) := by decide +kernel
theorem d_Lo_divideUnsigned_2 : decode b_Lo_divideUnsigned 2 = .ok (.lcmp, 1) := by decide +kernel
theorem d_Lo_divideUnsigned_3 : decode b_Lo_divideUnsigned 3 = .ok (.ifCond .lt 38, 3) := by decide +kernel
theorem d_Lo_divideUnsigned_6 : decode b_Lo_divideUnsigned 6 = .ok (.lload_n 0, 1) := by decide +kernel
theorem d_Lo_divideUnsigned_7 : decode b_Lo_divideUnsigned 7 = .ok (.iconst 1, 1) := by decide +kernel
theorem d_Lo_divideUnsigned_8 : decode b_Lo_divideUnsigned 8 = .ok (.lushr, 1) := by decide +kernel
theorem d_Lo_divideUnsigned_9 : decode b_Lo_divideUnsigned 9 = .ok (.lload_n 2, 1) := by decide +kernel
theorem d_Lo_divideUnsigned_10 : decode b_Lo_divideUnsigned 10 = .ok (.ldiv, 1) := by decide +kernel
theorem d_Lo_divideUnsigned_11 : decode b_Lo_divideUnsigned 11 = .ok (.iconst 1, 1) := by decide +kernel
theorem d_Lo_divideUnsigned_12 : decode b_Lo_divideUnsigned 12 = .ok (.lshl, 1) := by decide +kernel
theorem d_Lo_divideUnsigned_13 : decode b_Lo_divideUnsigned 13 = .ok (.lstore 4, 2) := by decide +kernel
theorem d_Lo_divideUnsigned_15 : decode b_Lo_divideUnsigned 15 = .ok (.lload_n 0, 1) := by decide +kernel
theorem d_Lo_divideUnsigned_16 : decode b_Lo_divideUnsigned 16 = .ok (.lload 4, 2) := by decide +kernel
theorem d_Lo_divideUnsigned_18 : decode b_Lo_divideUnsigned 18 = .ok (.lload_n 2, 1) := by decide +kernel
theorem d_Lo_divideUnsigned_19 : decode b_Lo_divideUnsigned 19 = .ok (.lmul, 1) := by decide +kernel
theorem d_Lo_divideUnsigned_20 : decode b_Lo_divideUnsigned 20 = .ok (.lsub, 1) := by decide +kernel
theorem d_Lo_divideUnsigned_21 : decode b_Lo_divideUnsigned 21 = .ok (.lstore 6, 2) := by decide +kernel
theorem d_Lo_divideUnsigned_23 : decode b_Lo_divideUnsigned 23 = .ok (.lload 4, 2) := by decide +kernel
theorem d_Lo_divideUnsigned_25 : decode b_Lo_divideUnsigned 25 = .ok (.lload 6, 2) := by decide +kernel
theorem d_Lo_divideUnsigned_27 : decode b_Lo_divideUnsigned 27 = .ok (.lload 6, 2) := by decide +kernel
theorem d_Lo_divideUnsigned_29 : decode b_Lo_divideUnsigned 29 = .ok (.lload_n 2, 1) := by decide +kernel
theorem d_Lo_divideUnsigned_30 : decode b_Lo_divideUnsigned 30 = .ok (.lsub, 1) := by decide +kernel
theorem d_Lo_divideUnsigned_31 : decode b_Lo_divideUnsigned 31 = .ok (.ldc2_w 306, 3) := by decide +kernel
theorem d_Lo_divideUnsigned_34 : decode b_Lo_divideUnsigned 34 = .ok (.lxor, 1) := by decide +kernel
theorem d_Lo_divideUnsigned_35 : decode b_Lo_divideUnsigned 35 = .ok (.lor, 1) := by decide +kernel
theorem d_Lo_divideUnsigned_36 : decode b_Lo_divideUnsigned 36 = .ok (.bipush 63, 2) := by decide +kernel
theorem d_Lo_divideUnsigned_38 : decode b_Lo_divideUnsigned 38 = .ok (.lushr, 1) := by decide +kernel
theorem d_Lo_divideUnsigned_39 : decode b_Lo_divideUnsigned 39 = .ok (.ladd, 1) := by decide +kernel
theorem d_Lo_divideUnsigned_40 : decode b_Lo_divideUnsigned 40 = .ok (.lreturn, 1) := by decide +kernel
theorem d_Lo_divideUnsigned_41 : decode b_Lo_divideUnsigned 41 = .ok (.lload_n 0, 1) := by decide +kernel
theorem d_Lo_divideUnsigned_42 : decode b_Lo_divideUnsigned 42 = .ok (.lload_n 0, 1) := by decide +kernel
theorem d_Lo_divideUnsigned_43 : decode b_Lo_divideUnsigned 43 = .ok (.lload_n 2, 1) := by decide +kernel
theorem d_Lo_divideUnsigned_44 : decode b_Lo_divideUnsigned 44 = .ok (.lsub, 1) := by decide +kernel
theorem d_Lo_divideUnsigned_45 : decode b_Lo_divideUnsigned 45 = .ok (.ldc2_w 306, 3) := by decide +kernel
theorem d_Lo_divideUnsigned_48 : decode b_Lo_divideUnsigned 48 = .ok (.lxor, 1) := by decide +kernel
theorem d_Lo_divideUnsigned_49 : decode b_Lo_divideUnsigned 49 = .ok (.land, 1) := by decide +kernel
theorem d_Lo_divideUnsigned_50 : decode b_Lo_divideUnsigned 50 = .ok (.bipush 63, 2) := by decide +kernel
theorem d_Lo_divideUnsigned_52 : decode b_Lo_divideUnsigned 52 = .ok (.lushr, 1) := by decide +kernel
theorem d_Lo_divideUnsigned_53 : decode b_Lo_divideUnsigned 53 = .ok (.lreturn, 1) := by decide +kernel
theorem d_Lo_numberOfLeadingZeros_0 : decode b_Lo_numberOfLeadingZeros 0 = .ok (.lload_n 0, 1) := by decide +kernel
theorem d_Lo_numberOfLeadingZeros_1 : decode b_Lo_numberOfLeadingZeros 1 = .ok (.bipush 32, 2) := by decide +kernel
theorem d_Lo_numberOfLeadingZeros_3 : decode b_Lo_numberOfLeadingZeros 3 = .ok (.lushr, 1) := by decide +kernel
theorem d_Lo_numberOfLeadingZeros_4 : decode b_Lo_numberOfLeadingZeros 4 = .ok (.l2i, 1) := by decide +kernel
theorem d_Lo_numberOfLeadingZeros_5 : decode b_Lo_numberOfLeadingZeros 5 = .ok (.istore_n 2, 1) := by decide +kernel
theorem d_Lo_numberOfLeadingZeros_6 : decode b_Lo_numberOfLeadingZeros 6 = .ok (.iload_n 2, 1) := by decide +kernel
theorem d_Lo_numberOfLeadingZeros_7 : decode b_Lo_numberOfLeadingZeros 7 = .ok (.ifCond .ne 14, 3) := by decide +kernel
theorem d_Lo_numberOfLeadingZeros_10 : decode b_Lo_numberOfLeadingZeros 10 = .ok (.bipush 32, 2) := by decide +kernel
theorem d_Lo_numberOfLeadingZeros_12 : decode b_Lo_numberOfLeadingZeros 12 = .ok (.lload_n 0, 1) := by decide +kernel
theorem d_Lo_numberOfLeadingZeros_13 : decode b_Lo_numberOfLeadingZeros 13 = .ok (.l2i, 1) := by decide +kernel
theorem d_Lo_numberOfLeadingZeros_14 : decode b_Lo_numberOfLeadingZeros 14 = .ok (.invokestatic 308, 3) := by decide +kernel
theorem d_Lo_numberOfLeadingZeros_17 : decode b_Lo_numberOfLeadingZeros 17 = .ok (.iadd, 1) := by decide +kernel
theorem d_Lo_numberOfLeadingZeros_18 : decode b_Lo_numberOfLeadingZeros 18 = .ok (.goto 7, 3) := by decide +kernel
theorem d_Lo_numberOfLeadingZeros_21 : decode b_Lo_numberOfLeadingZeros 21 = .ok (.iload_n 2, 1) := by decide +kernel
theorem d_Lo_numberOfLeadingZeros_22 : decode b_Lo_numberOfLeadingZeros 22 = .ok (.invokestatic 308, 3) := by decide +kernel
theorem d_Lo_numberOfLeadingZeros_25 : decode b_Lo_numberOfLeadingZeros 25 = .ok (.ireturn, 1) := by decide +kernel
end
section
theorem d_In_numberOfLeadingZeros_0 : decode b_In_numberOfLeadingZeros 0 = .ok (.iload_n 0, 1) := by decide +kernel
theorem d_In_numberOfLeadingZeros_1 : decode b_In_numberOfLeadingZeros 1 = .ok (.ifCond .gt 14, 3) := by decide +kernel
theorem d_In_numberOfLeadingZeros_4 : decode b_In_numberOfLeadingZeros 4 = .ok (.iload_n 0, 1) := by decide +kernel
theorem d_In_numberOfLeadingZeros_5 : decode b_In_numberOfLeadingZeros 5 = .ok (.ifCond .ne 8, 3) := by decide +kernel
theorem d_In_numberOfLeadingZeros_8 : decode b_In_numberOfLeadingZeros 8 = .ok (.bipush 32, 2) := by decide +kernel
theorem d_In_numberOfLeadingZeros_10 : decode b_In_numberOfLeadingZeros 10 = .ok (.goto 4, 3) := by decide +kernel
theorem d_In_numberOfLeadingZeros_13 : decode b_In_numberOfLeadingZeros 13 = .ok (.iconst 0, 1) := by decide +kernel
theorem d_In_numberOfLeadingZeros_14 : decode b_In_numberOfLeadingZeros 14 = .ok (.ireturn, 1) := by decide +kernel
theorem d_In_numberOfLeadingZeros_15 : decode b_In_numberOfLeadingZeros 15 = .ok (.bipush 31, 2) := by decide +kernel
theorem d_In_numberOfLeadingZeros_17 : decode b_In_numberOfLeadingZeros 17 = .ok (.istore_n 1, 1) := by decide +kernel
theorem d_In_numberOfLeadingZeros_18 : decode b_In_numberOfLeadingZeros 18 = .ok (.iload_n 0, 1) := by decide +kernel
theorem d_In_numberOfLeadingZeros_19 : decode b_In_numberOfLeadingZeros 19 = .ok (.ldc_w 264, 3) := by decide +kernel
theorem d_In_numberOfLeadingZeros_22 : decode b_In_numberOfLeadingZeros 22 = .ok (.if_icmp .lt 11, 3) := by decide +kernel
theorem d_In_numberOfLeadingZeros_25 : decode b_In_numberOfLeadingZeros 25 = .ok (.iinc 1 (-16), 3) := by decide +kernel
theorem d_In_numberOfLeadingZeros_28 : decode b_In_numberOfLeadingZeros 28 = .ok (.iload_n 0, 1) := by decide +kernel
theorem d_In_numberOfLeadingZeros_29 : decode b_In_numberOfLeadingZeros 29 = .ok (.bipush 16, 2) := by decide +kernel
theorem d_In_numberOfLeadingZeros_31 : decode b_In_numberOfLeadingZeros 31 = .ok (.iushr, 1) := by decide +kernel
theorem d_In_numberOfLeadingZeros_32 : decode b_In_numberOfLeadingZeros 32 = .ok (.istore_n 0, 1) := by decide +kernel
theorem d_In_numberOfLeadingZeros_33 : decode b_In_numberOfLeadingZeros 33 = .ok (.iload_n 0, 1) := by decide +kernel
theorem d_In_numberOfLeadingZeros_34 : decode b_In_numberOfLeadingZeros 34 = .ok (.sipush 256, 3) := by decide +kernel
theorem d_In_numberOfLeadingZeros_37 : decode b_In_numberOfLeadingZeros 37 = .ok (.if_icmp .lt 11, 3) := by decide +kernel
theorem d_In_numberOfLeadingZeros_40 : decode b_In_numberOfLeadingZeros 40 = .ok (.iinc 1 (-8), 3) := by decide +kernel
theorem d_In_numberOfLeadingZeros_43 : decode b_In_numberOfLeadingZeros 43 = .ok (.iload_n 0, 1) := by decide +kernel
theorem d_In_numberOfLeadingZeros_44 : decode b_In_numberOfLeadingZeros 44 = .ok (.bipush 8, 2) := by decide +kernel
theorem d_In_numberOfLeadingZeros_46 : decode b_In_numberOfLeadingZeros 46 = .ok (.iushr, 1) := by decide +kernel
theorem d_In_numberOfLeadingZeros_47 : decode b_In_numberOfLeadingZeros 47 = .ok (.istore_n 0, 1) := by decide +kernel
theorem d_In_numberOfLeadingZeros_48 : decode b_In_numberOfLeadingZeros 48 = .ok (.iload_n 0, 1) := by decide +kernel
theorem d_In_numberOfLeadingZeros_49 : decode b_In_numberOfLeadingZeros 49 = .ok (.bipush 16, 2) := by decide +kernel
theorem d_In_numberOfLeadingZeros_51 : decode b_In_numberOfLeadingZeros 51 = .ok (.if_icmp .lt 10, 3) := by decide +kernel
theorem d_In_numberOfLeadingZeros_54 : decode b_In_numberOfLeadingZeros 54 = .ok (.iinc 1 (-4), 3) := by decide +kernel
theorem d_In_numberOfLeadingZeros_57 : decode b_In_numberOfLeadingZeros 57 = .ok (.iload_n 0, 1) := by decide +kernel
theorem d_In_numberOfLeadingZeros_58 : decode b_In_numberOfLeadingZeros 58 = .ok (.iconst 4, 1) := by decide +kernel
theorem d_In_numberOfLeadingZeros_59 : decode b_In_numberOfLeadingZeros 59 = .ok (.iushr, 1) := by decide +kernel
theorem d_In_numberOfLeadingZeros_60 : decode b_In_numberOfLeadingZeros 60 = .ok (.istore_n 0, 1) := by decide +kernel
theorem d_In_numberOfLeadingZeros_61 : decode b_In_numberOfLeadingZeros 61 = .ok (.iload_n 0, 1) := by decide +kernel
theorem d_In_numberOfLeadingZeros_62 : decode b_In_numberOfLeadingZeros 62 = .ok (.iconst 4, 1) := by decide +kernel
theorem d_In_numberOfLeadingZeros_63 : decode b_In_numberOfLeadingZeros 63 = .ok (.if_icmp .lt 10, 3) := by decide +kernel
theorem d_In_numberOfLeadingZeros_66 : decode b_In_numberOfLeadingZeros 66 = .ok (.iinc 1 (-2), 3) := by decide +kernel
theorem d_In_numberOfLeadingZeros_69 : decode b_In_numberOfLeadingZeros 69 = .ok (.iload_n 0, 1) := by decide +kernel
theorem d_In_numberOfLeadingZeros_70 : decode b_In_numberOfLeadingZeros 70 = .ok (.iconst 2, 1) := by decide +kernel
theorem d_In_numberOfLeadingZeros_71 : decode b_In_numberOfLeadingZeros 71 = .ok (.iushr, 1) := by decide +kernel
theorem d_In_numberOfLeadingZeros_72 : decode b_In_numberOfLeadingZeros 72 = .ok (.istore_n 0, 1) := by decide +kernel
theorem d_In_numberOfLeadingZeros_73 : decode b_In_numberOfLeadingZeros 73 = .ok (.iload_n 1, 1) := by decide +kernel
theorem d_In_numberOfLeadingZeros_74 : decode b_In_numberOfLeadingZeros 74 = .ok (.iload_n 0, 1) := by decide +kernel
theorem d_In_numberOfLeadingZeros_75 : decode b_In_numberOfLeadingZeros 75 = .ok (.iconst 1, 1) := by decide +kernel
theorem d_In_numberOfLeadingZeros_76 : decode b_In_numberOfLeadingZeros 76 = .ok (.iushr, 1) := by decide +kernel
theorem d_In_numberOfLeadingZeros_77 : decode b_In_numberOfLeadingZeros 77 = .ok (.isub, 1) := by decide +kernel
theorem d_In_numberOfLeadingZeros_78 : decode b_In_numberOfLeadingZeros 78 = .ok (.ireturn, 1) := by decide +kernel
end
