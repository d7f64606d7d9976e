section
/-! Int32 and Int64 by their numbers: iI z, jI z; rows of the kit said of them -/
def iI (z : Int) : Int32 := Int32.ofInt z
def jI (z : Int) : Int64 := Int64.ofInt z
abbrev iR (z : Int) : Prop := -2147483648 ≤ z ∧ z < 2147483648
abbrev jR (z : Int) : Prop := -9223372036854775808 ≤ z ∧ z < 9223372036854775808
theorem iI_add (a b : Int) : iI a + iI b = iI (a + b) := (Int32.ofInt_add a b).symm
theorem iI_sub (a b : Int) : iI a - iI b = iI (a - b) := (Int32.ofInt_sub a b).symm
theorem iI_mul (a b : Int) : iI a * iI b = iI (a * b) := (Int32.ofInt_mul a b).symm
theorem iI_neg (a : Int) : -iI a = iI (-a) := (Int32.ofInt_neg a).symm
theorem jI_add (a b : Int) : jI a + jI b = jI (a + b) := (Int64.ofInt_add a b).symm
theorem jI_sub (a b : Int) : jI a - jI b = jI (a - b) := (Int64.ofInt_sub a b).symm
theorem jI_mul (a b : Int) : jI a * jI b = jI (a * b) := (Int64.ofInt_mul a b).symm
theorem iI_toInt {z : Int} (h : iR z) : (iI z).toInt = z := Int32.toInt_ofInt_of_le (by have := h.1; omega) (by have := h.2; omega)
theorem jI_toInt {z : Int} (h : jR z) : (jI z).toInt = z := Int64.toInt_ofInt_of_le (by have := h.1; omega) (by have := h.2; omega)
theorem iI_of (x : Int32) : ∃ z : Int, iR z ∧ x = iI z := ⟨x.toInt, ⟨by have := x.le_toInt; omega, by have := x.toInt_lt; omega⟩, (Int32.ofInt_toInt x).symm⟩
theorem jI_of (x : Int64) : ∃ z : Int, jR z ∧ x = jI z := ⟨x.toInt, ⟨by have := x.le_toInt; omega, by have := x.toInt_lt; omega⟩, (Int64.ofInt_toInt x).symm⟩
theorem iI_lt {a b : Int} (ha : iR a) (hb : iR b) : iI a < iI b ↔ a < b := by rw [Int32.lt_iff_toInt_lt, iI_toInt ha, iI_toInt hb]
theorem iI_le {a b : Int} (ha : iR a) (hb : iR b) : iI a ≤ iI b ↔ a ≤ b := by rw [Int32.le_iff_toInt_le, iI_toInt ha, iI_toInt hb]
theorem iI_eq {a b : Int} (ha : iR a) (hb : iR b) : iI a = iI b ↔ a = b := ⟨fun h => by have := congrArg Int32.toInt h; rwa [iI_toInt ha, iI_toInt hb] at this, fun h => by rw [h]⟩
theorem jI_lt {a b : Int} (ha : jR a) (hb : jR b) : jI a < jI b ↔ a < b := by rw [Int64.lt_iff_toInt_lt, jI_toInt ha, jI_toInt hb]
theorem jI_le {a b : Int} (ha : jR a) (hb : jR b) : jI a ≤ jI b ↔ a ≤ b := by rw [Int64.le_iff_toInt_le, jI_toInt ha, jI_toInt hb]
theorem jI_eq {a b : Int} (ha : jR a) (hb : jR b) : jI a = jI b ↔ a = b := ⟨fun h => by have := congrArg Int64.toInt h; rwa [jI_toInt ha, jI_toInt hb] at this, fun h => by rw [h]⟩
theorem iI_0 : iI 0 = 0 := rfl
theorem iI_1 : iI 1 = 1 := rfl
theorem jI_0 : jI 0 = 0 := rfl
theorem iI_lt0 {a : Int} (ha : iR a) : iI a < 0 ↔ a < 0 := iI_lt (b := 0) ha (by omega)
theorem iI_le0 {a : Int} (ha : iR a) : iI a ≤ 0 ↔ a ≤ 0 := iI_le (b := 0) ha (by omega)
theorem iI_ge0 {a : Int} (ha : iR a) : 0 ≤ iI a ↔ 0 ≤ a := iI_le (a := 0) (by omega) ha
theorem iI_gt0 {a : Int} (ha : iR a) : 0 < iI a ↔ 0 < a := iI_lt (a := 0) (by omega) ha
theorem iI_eq0 {a : Int} (ha : iR a) : iI a = 0 ↔ a = 0 := iI_eq (b := 0) ha (by omega)
theorem iI_div {a b : Int} (ha : iR a) (hb : iR b) : iI a / iI b = iI (a.tdiv b) :=
  (Int32.ofInt_tdiv (by rw [Int32.toInt_minValue]; have := ha.1; omega) (by rw [Int32.toInt_maxValue]; have := ha.2; omega) (by rw [Int32.toInt_minValue]; have := hb.1; omega) (by rw [Int32.toInt_maxValue]; have := hb.2; omega)).symm
theorem jI_div {a b : Int} (ha : jR a) (hb : jR b) : jI a / jI b = jI (a.tdiv b) :=
  (Int64.ofInt_tdiv (by rw [Int64.toInt_minValue]; have := ha.1; omega) (by rw [Int64.toInt_maxValue]; have := ha.2; omega) (by rw [Int64.toInt_minValue]; have := hb.1; omega) (by rw [Int64.toInt_maxValue]; have := hb.2; omega)).symm
/-- division of numbers that are not below 0 -/
theorem iI_divP {a b : Int} (ha : iR a) (hb : iR b) (h0 : 0 ≤ a) : iI a / iI b = iI (a / b) := by rw [iI_div ha hb, Int.tdiv_eq_ediv_of_nonneg h0]
theorem jI_divP {a b : Int} (ha : jR a) (hb : jR b) (h0 : 0 ≤ a) : jI a / jI b = jI (a / b) := by rw [jI_div ha hb, Int.tdiv_eq_ediv_of_nonneg h0]
theorem iI_remP {a b : Int} (ha : iR a) (hb : iR b) (h0 : 0 ≤ a) : iI a - iI a / iI b * iI b = iI (a % b) := by
  rw [iI_divP ha hb h0, iI_mul, iI_sub]
  congr 1
  have := Int.emod_add_mul_ediv a b
  rw [Int.mul_comm] at this
  omega
theorem jI_remP {a b : Int} (ha : jR a) (hb : jR b) (h0 : 0 ≤ a) : jI a - jI a / jI b * jI b = jI (a % b) := by
  rw [jI_divP ha hb h0, jI_mul, jI_sub]
  congr 1
  have := Int.emod_add_mul_ediv a b
  rw [Int.mul_comm] at this
  omega
theorem iI_nat (n : Nat) : iI (n : Int) = nI n := Int32.ofInt_eq_ofNat
theorem jI_nat (n : Nat) : jI (n : Int) = lN n := Int64.ofInt_eq_ofNat
theorem iI_clamp {z : Int} (h : iR z) : (iI z).toNatClampNeg = z.toNat := Int32.toNatClampNeg_ofInt_of_le (by have := h.1; omega) (by have := h.2; omega)
theorem iI_clampN {n : Nat} (h : n < 2147483648) : (iI (n : Int)).toNatClampNeg = n := by rw [iI_clamp (by omega)]; rfl
theorem iI_in {z : Int} {n : Nat} (h0 : 0 ≤ z) (h : z < n) (hn : n < 2147483648) : vp_in (iI z) n := by
  rw [vp_in_iff, iI_toInt (by omega)]
  exact ⟨h0, h⟩
theorem iI_toL {z : Int} (h : iR z) : (iI z).toInt64 = jI z := by
  apply Int64.toInt_inj.mp
  rw [Int32.toInt_toInt64, iI_toInt h, jI_toInt (by omega)]
theorem jI_toI (z : Int) : (jI z).toInt32 = iI z := Int64.toInt32_ofInt
theorem iI_byte {z : Int} (h : -128 ≤ z ∧ z < 128) : (iI z).toInt8.toInt32 = iI z := by
  apply Int32.toInt_inj.mp
  rw [iI_toInt (by omega), Int8.toInt_toInt32, Int32.toInt_toInt8, iI_toInt (by omega)]
  exact Int.bmod_eq_of_le (by omega) (by omega)
theorem iI_nar {z : Int} (h : -128 ≤ z ∧ z < 128) : vp_nar .byte (iI z) = iI z := by rw [vp_nar_byte, iI_byte h]
theorem upd_s {f : Nat → Int32} {k : Nat} {x : Int32} : upd f k x k = x := pk_us
theorem upd_n {f : Nat → Int32} {k j : Nat} {x : Int32} (h : j ≠ k) : upd f k x j = f j := pk_un h

section EdRows
variable {p : Program} {l : Launch} {e : Env} {R : Room} {s : State} {m : MethodId} {args : Array Value} {below : List Frame} {meth : Method} {c : Code} {H : Heap} {locs : List Loc} {cells slots : Nat} {Q : State → Prop} {cc : ByteArray} {pc : Nat} {ls : Array Slot} {rest : List Value}
/-- the top of the stack by another name -/
theorem ed_ti {x y : Int32} (h : x = y) (k : W p l e R s m args below meth c H locs cells slots Q (F0 m pc ls (.int y :: rest))) : W p l e R s m args below meth c H locs cells slots Q (F0 m pc ls (.int x :: rest)) := h ▸ k
theorem ed_tl {x y : Int64} (h : x = y) (k : W p l e R s m args below meth c H locs cells slots Q (F0 m pc ls (.long y :: rest))) : W p l e R s m args below meth c H locs cells slots Q (F0 m pc ls (.long x :: rest)) := h ▸ k
/-- the same number, otherwise written -/
theorem ed_tz {x y : Int} (h : x = y) (k : W p l e R s m args below meth c H locs cells slots Q (F0 m pc ls (.int (iI y) :: rest))) : W p l e R s m args below meth c H locs cells slots Q (F0 m pc ls (.int (iI x) :: rest)) := h ▸ k
theorem ed_tj {x y : Int} (h : x = y) (k : W p l e R s m args below meth c H locs cells slots Q (F0 m pc ls (.long (jI y) :: rest))) : W p l e R s m args below meth c H locs cells slots Q (F0 m pc ls (.long (jI x) :: rest)) := h ▸ k
/-- the place by a numeral -/
theorem ed_pc {pc' : Nat} {st : List Value} (h : pc = pc') (k : W p l e R s m args below meth c H locs cells slots Q (F0 m pc' ls st)) : W p l e R s m args below meth c H locs cells slots Q (F0 m pc ls st) := h ▸ k
theorem ed_iadd (hx : p.tables.exec = Jvm.exec) (hb : c.code = cc) {a b : Int} (hdg : decode cc pc = .ok (.iadd, 1)) (k : W p l e R s m args below meth c H locs cells slots Q (F0 m (pc + 1) ls (.int (iI (a + b)) :: rest))) : W p l e R s m args below meth c H locs cells slots Q (F0 m pc ls (.int (iI b) :: .int (iI a) :: rest)) := lv_iadd hx hb hdg (by rw [iI_add]; exact k)
theorem ed_isub (hx : p.tables.exec = Jvm.exec) (hb : c.code = cc) {a b : Int} (hdg : decode cc pc = .ok (.isub, 1)) (k : W p l e R s m args below meth c H locs cells slots Q (F0 m (pc + 1) ls (.int (iI (a - b)) :: rest))) : W p l e R s m args below meth c H locs cells slots Q (F0 m pc ls (.int (iI b) :: .int (iI a) :: rest)) := lv_isub hx hb hdg (by rw [iI_sub]; exact k)
theorem ed_imul (hx : p.tables.exec = Jvm.exec) (hb : c.code = cc) {a b : Int} (hdg : decode cc pc = .ok (.imul, 1)) (k : W p l e R s m args below meth c H locs cells slots Q (F0 m (pc + 1) ls (.int (iI (a * b)) :: rest))) : W p l e R s m args below meth c H locs cells slots Q (F0 m pc ls (.int (iI b) :: .int (iI a) :: rest)) := lv_imul hx hb hdg (by rw [iI_mul]; exact k)
theorem ed_ineg (hx : p.tables.exec = Jvm.exec) (hb : c.code = cc) {a : Int} (hdg : decode cc pc = .ok (.ineg, 1)) (k : W p l e R s m args below meth c H locs cells slots Q (F0 m (pc + 1) ls (.int (iI (-a)) :: rest))) : W p l e R s m args below meth c H locs cells slots Q (F0 m pc ls (.int (iI a) :: rest)) := lv_ineg hx hb hdg (by rw [iI_neg]; exact k)
theorem ed_idiv (hx : p.tables.exec = Jvm.exec) (hb : c.code = cc) {a b : Int} (hdg : decode cc pc = .ok (.idiv, 1)) (ha : iR a) (h0 : 0 ≤ a) (hbb : 0 < b ∧ b < 2147483648) (k : W p l e R s m args below meth c H locs cells slots Q (F0 m (pc + 1) ls (.int (iI (a / b)) :: rest))) : W p l e R s m args below meth c H locs cells slots Q (F0 m pc ls (.int (iI b) :: .int (iI a) :: rest)) := lv_idiv hx hb hdg (by rw [iI_eq0 (by omega)]; omega) (by rw [iI_divP ha (by omega) h0]; exact k)
theorem ed_irem (hx : p.tables.exec = Jvm.exec) (hb : c.code = cc) {a b : Int} (hdg : decode cc pc = .ok (.irem, 1)) (ha : iR a) (h0 : 0 ≤ a) (hbb : 0 < b ∧ b < 2147483648) (k : W p l e R s m args below meth c H locs cells slots Q (F0 m (pc + 1) ls (.int (iI (a % b)) :: rest))) : W p l e R s m args below meth c H locs cells slots Q (F0 m pc ls (.int (iI b) :: .int (iI a) :: rest)) := lv_irem hx hb hdg (by rw [iI_eq0 (by omega)]; omega) (by rw [iI_remP ha (by omega) h0]; exact k)
theorem ed_ladd (hx : p.tables.exec = Jvm.exec) (hb : c.code = cc) {a b : Int} (hdg : decode cc pc = .ok (.ladd, 1)) (k : W p l e R s m args below meth c H locs cells slots Q (F0 m (pc + 1) ls (.long (jI (a + b)) :: rest))) : W p l e R s m args below meth c H locs cells slots Q (F0 m pc ls (.long (jI b) :: .long (jI a) :: rest)) := lv_ladd hx hb hdg (by rw [jI_add]; exact k)
theorem ed_lsub (hx : p.tables.exec = Jvm.exec) (hb : c.code = cc) {a b : Int} (hdg : decode cc pc = .ok (.lsub, 1)) (k : W p l e R s m args below meth c H locs cells slots Q (F0 m (pc + 1) ls (.long (jI (a - b)) :: rest))) : W p l e R s m args below meth c H locs cells slots Q (F0 m pc ls (.long (jI b) :: .long (jI a) :: rest)) := lv_lsub hx hb hdg (by rw [jI_sub]; exact k)
theorem ed_lmul (hx : p.tables.exec = Jvm.exec) (hb : c.code = cc) {a b : Int} (hdg : decode cc pc = .ok (.lmul, 1)) (k : W p l e R s m args below meth c H locs cells slots Q (F0 m (pc + 1) ls (.long (jI (a * b)) :: rest))) : W p l e R s m args below meth c H locs cells slots Q (F0 m pc ls (.long (jI b) :: .long (jI a) :: rest)) := lv_lmul hx hb hdg (by rw [jI_mul]; exact k)
theorem ed_ldiv (hx : p.tables.exec = Jvm.exec) (hb : c.code = cc) {a b : Int} (hdg : decode cc pc = .ok (.ldiv, 1)) (ha : jR a) (h0 : 0 ≤ a) (hbb : 0 < b ∧ b < 9223372036854775808) (k : W p l e R s m args below meth c H locs cells slots Q (F0 m (pc + 1) ls (.long (jI (a / b)) :: rest))) : W p l e R s m args below meth c H locs cells slots Q (F0 m pc ls (.long (jI b) :: .long (jI a) :: rest)) := lv_ldiv hx hb hdg (by intro h; have := (jI_eq (b := 0) (by omega) (by omega)).mp h; omega) (by rw [jI_divP ha (by omega) h0]; exact k)
theorem ed_lrem (hx : p.tables.exec = Jvm.exec) (hb : c.code = cc) {a b : Int} (hdg : decode cc pc = .ok (.lrem, 1)) (ha : jR a) (h0 : 0 ≤ a) (hbb : 0 < b ∧ b < 9223372036854775808) (k : W p l e R s m args below meth c H locs cells slots Q (F0 m (pc + 1) ls (.long (jI (a % b)) :: rest))) : W p l e R s m args below meth c H locs cells slots Q (F0 m pc ls (.long (jI b) :: .long (jI a) :: rest)) := lv_lrem hx hb hdg (by intro h; have := (jI_eq (b := 0) (by omega) (by omega)).mp h; omega) (by rw [jI_remP ha (by omega) h0]; exact k)
theorem ed_i2l (hx : p.tables.exec = Jvm.exec) (hb : c.code = cc) {a : Int} (hdg : decode cc pc = .ok (.i2l, 1)) (ha : iR a) (k : W p l e R s m args below meth c H locs cells slots Q (F0 m (pc + 1) ls (.long (jI a) :: rest))) : W p l e R s m args below meth c H locs cells slots Q (F0 m pc ls (.int (iI a) :: rest)) := lv_i2l hx hb hdg (iI_toL ha) k
theorem ed_l2i (hx : p.tables.exec = Jvm.exec) (hb : c.code = cc) {a : Int} (hdg : decode cc pc = .ok (.l2i, 1)) (k : W p l e R s m args below meth c H locs cells slots Q (F0 m (pc + 1) ls (.int (iI a) :: rest))) : W p l e R s m args below meth c H locs cells slots Q (F0 m pc ls (.long (jI a) :: rest)) := lv_l2i hx hb hdg (jI_toI a) k
theorem ed_i2b (hx : p.tables.exec = Jvm.exec) (hb : c.code = cc) {a : Int} (hdg : decode cc pc = .ok (.i2b, 1)) (ha : -128 ≤ a ∧ a < 128) (k : W p l e R s m args below meth c H locs cells slots Q (F0 m (pc + 1) ls (.int (iI a) :: rest))) : W p l e R s m args below meth c H locs cells slots Q (F0 m pc ls (.int (iI a) :: rest)) := lv_i2b hx hb hdg (iI_byte ha) k

theorem ed_if_eq (hx : p.tables.exec = Jvm.exec) (hb : c.code = cc) {a : Int} {off : Int} {tgt : Nat} (hdg : decode cc pc = .ok (.ifCond .eq off, 3)) (ht : (pc : Int) + off = (tgt : Int)) (ha : iR a) (kt : a = 0 → W p l e R s m args below meth c H locs cells slots Q (F0 m tgt ls rest)) (kf : ¬ a = 0 → W p l e R s m args below meth c H locs cells slots Q (F0 m (pc + 3) ls rest)) : W p l e R s m args below meth c H locs cells slots Q (F0 m pc ls (.int (iI a) :: rest)) := lv_if_eq hx hb hdg ht (fun z => kt ((iI_eq0 ha).mp z)) (fun z => kf (fun z2 => z ((iI_eq0 ha).mpr z2)))
theorem ed_icmp_eq (hx : p.tables.exec = Jvm.exec) (hb : c.code = cc) {a b : Int} {off : Int} {tgt : Nat} (hdg : decode cc pc = .ok (.if_icmp .eq off, 3)) (ht : (pc : Int) + off = (tgt : Int)) (ha : iR a) (hbr : iR b) (kt : a = b → W p l e R s m args below meth c H locs cells slots Q (F0 m tgt ls rest)) (kf : ¬ a = b → W p l e R s m args below meth c H locs cells slots Q (F0 m (pc + 3) ls rest)) : W p l e R s m args below meth c H locs cells slots Q (F0 m pc ls (.int (iI b) :: .int (iI a) :: rest)) := lv_icmp_eq hx hb hdg ht (fun z => kt ((iI_eq ha hbr).mp z)) (fun z => kf (fun z2 => z ((iI_eq ha hbr).mpr z2)))
theorem ed_if_ne (hx : p.tables.exec = Jvm.exec) (hb : c.code = cc) {a : Int} {off : Int} {tgt : Nat} (hdg : decode cc pc = .ok (.ifCond .ne off, 3)) (ht : (pc : Int) + off = (tgt : Int)) (ha : iR a) (kt : ¬ a = 0 → W p l e R s m args below meth c H locs cells slots Q (F0 m tgt ls rest)) (kf : a = 0 → W p l e R s m args below meth c H locs cells slots Q (F0 m (pc + 3) ls rest)) : W p l e R s m args below meth c H locs cells slots Q (F0 m pc ls (.int (iI a) :: rest)) := lv_if_ne hx hb hdg ht (fun z => kt (fun z2 => z ((iI_eq0 ha).mpr z2))) (fun z => kf ((iI_eq0 ha).mp z))
theorem ed_icmp_ne (hx : p.tables.exec = Jvm.exec) (hb : c.code = cc) {a b : Int} {off : Int} {tgt : Nat} (hdg : decode cc pc = .ok (.if_icmp .ne off, 3)) (ht : (pc : Int) + off = (tgt : Int)) (ha : iR a) (hbr : iR b) (kt : ¬ a = b → W p l e R s m args below meth c H locs cells slots Q (F0 m tgt ls rest)) (kf : a = b → W p l e R s m args below meth c H locs cells slots Q (F0 m (pc + 3) ls rest)) : W p l e R s m args below meth c H locs cells slots Q (F0 m pc ls (.int (iI b) :: .int (iI a) :: rest)) := lv_icmp_ne hx hb hdg ht (fun z => kt (fun z2 => z ((iI_eq ha hbr).mpr z2))) (fun z => kf ((iI_eq ha hbr).mp z))
theorem ed_if_lt (hx : p.tables.exec = Jvm.exec) (hb : c.code = cc) {a : Int} {off : Int} {tgt : Nat} (hdg : decode cc pc = .ok (.ifCond .lt off, 3)) (ht : (pc : Int) + off = (tgt : Int)) (ha : iR a) (kt : a < 0 → W p l e R s m args below meth c H locs cells slots Q (F0 m tgt ls rest)) (kf : ¬ a < 0 → W p l e R s m args below meth c H locs cells slots Q (F0 m (pc + 3) ls rest)) : W p l e R s m args below meth c H locs cells slots Q (F0 m pc ls (.int (iI a) :: rest)) := lv_if_lt hx hb hdg ht (fun z => kt ((iI_lt0 ha).mp z)) (fun z => kf (fun z2 => z ((iI_lt0 ha).mpr z2)))
theorem ed_icmp_lt (hx : p.tables.exec = Jvm.exec) (hb : c.code = cc) {a b : Int} {off : Int} {tgt : Nat} (hdg : decode cc pc = .ok (.if_icmp .lt off, 3)) (ht : (pc : Int) + off = (tgt : Int)) (ha : iR a) (hbr : iR b) (kt : a < b → W p l e R s m args below meth c H locs cells slots Q (F0 m tgt ls rest)) (kf : ¬ a < b → W p l e R s m args below meth c H locs cells slots Q (F0 m (pc + 3) ls rest)) : W p l e R s m args below meth c H locs cells slots Q (F0 m pc ls (.int (iI b) :: .int (iI a) :: rest)) := lv_icmp_lt hx hb hdg ht (fun z => kt ((iI_lt ha hbr).mp z)) (fun z => kf (fun z2 => z ((iI_lt ha hbr).mpr z2)))
theorem ed_if_ge (hx : p.tables.exec = Jvm.exec) (hb : c.code = cc) {a : Int} {off : Int} {tgt : Nat} (hdg : decode cc pc = .ok (.ifCond .ge off, 3)) (ht : (pc : Int) + off = (tgt : Int)) (ha : iR a) (kt : 0 ≤ a → W p l e R s m args below meth c H locs cells slots Q (F0 m tgt ls rest)) (kf : ¬ 0 ≤ a → W p l e R s m args below meth c H locs cells slots Q (F0 m (pc + 3) ls rest)) : W p l e R s m args below meth c H locs cells slots Q (F0 m pc ls (.int (iI a) :: rest)) := lv_if_ge hx hb hdg ht (fun z => kt ((iI_ge0 ha).mp z)) (fun z => kf (fun z2 => z ((iI_ge0 ha).mpr z2)))
theorem ed_icmp_ge (hx : p.tables.exec = Jvm.exec) (hb : c.code = cc) {a b : Int} {off : Int} {tgt : Nat} (hdg : decode cc pc = .ok (.if_icmp .ge off, 3)) (ht : (pc : Int) + off = (tgt : Int)) (ha : iR a) (hbr : iR b) (kt : b ≤ a → W p l e R s m args below meth c H locs cells slots Q (F0 m tgt ls rest)) (kf : ¬ b ≤ a → W p l e R s m args below meth c H locs cells slots Q (F0 m (pc + 3) ls rest)) : W p l e R s m args below meth c H locs cells slots Q (F0 m pc ls (.int (iI b) :: .int (iI a) :: rest)) := lv_icmp_ge hx hb hdg ht (fun z => kt ((iI_le hbr ha).mp z)) (fun z => kf (fun z2 => z ((iI_le hbr ha).mpr z2)))
theorem ed_if_gt (hx : p.tables.exec = Jvm.exec) (hb : c.code = cc) {a : Int} {off : Int} {tgt : Nat} (hdg : decode cc pc = .ok (.ifCond .gt off, 3)) (ht : (pc : Int) + off = (tgt : Int)) (ha : iR a) (kt : 0 < a → W p l e R s m args below meth c H locs cells slots Q (F0 m tgt ls rest)) (kf : ¬ 0 < a → W p l e R s m args below meth c H locs cells slots Q (F0 m (pc + 3) ls rest)) : W p l e R s m args below meth c H locs cells slots Q (F0 m pc ls (.int (iI a) :: rest)) := lv_if_gt hx hb hdg ht (fun z => kt ((iI_gt0 ha).mp z)) (fun z => kf (fun z2 => z ((iI_gt0 ha).mpr z2)))
theorem ed_icmp_gt (hx : p.tables.exec = Jvm.exec) (hb : c.code = cc) {a b : Int} {off : Int} {tgt : Nat} (hdg : decode cc pc = .ok (.if_icmp .gt off, 3)) (ht : (pc : Int) + off = (tgt : Int)) (ha : iR a) (hbr : iR b) (kt : b < a → W p l e R s m args below meth c H locs cells slots Q (F0 m tgt ls rest)) (kf : ¬ b < a → W p l e R s m args below meth c H locs cells slots Q (F0 m (pc + 3) ls rest)) : W p l e R s m args below meth c H locs cells slots Q (F0 m pc ls (.int (iI b) :: .int (iI a) :: rest)) := lv_icmp_gt hx hb hdg ht (fun z => kt ((iI_lt hbr ha).mp z)) (fun z => kf (fun z2 => z ((iI_lt hbr ha).mpr z2)))
theorem ed_if_le (hx : p.tables.exec = Jvm.exec) (hb : c.code = cc) {a : Int} {off : Int} {tgt : Nat} (hdg : decode cc pc = .ok (.ifCond .le off, 3)) (ht : (pc : Int) + off = (tgt : Int)) (ha : iR a) (kt : a ≤ 0 → W p l e R s m args below meth c H locs cells slots Q (F0 m tgt ls rest)) (kf : ¬ a ≤ 0 → W p l e R s m args below meth c H locs cells slots Q (F0 m (pc + 3) ls rest)) : W p l e R s m args below meth c H locs cells slots Q (F0 m pc ls (.int (iI a) :: rest)) := lv_if_le hx hb hdg ht (fun z => kt ((iI_le0 ha).mp z)) (fun z => kf (fun z2 => z ((iI_le0 ha).mpr z2)))
theorem ed_icmp_le (hx : p.tables.exec = Jvm.exec) (hb : c.code = cc) {a b : Int} {off : Int} {tgt : Nat} (hdg : decode cc pc = .ok (.if_icmp .le off, 3)) (ht : (pc : Int) + off = (tgt : Int)) (ha : iR a) (hbr : iR b) (kt : a ≤ b → W p l e R s m args below meth c H locs cells slots Q (F0 m tgt ls rest)) (kf : ¬ a ≤ b → W p l e R s m args below meth c H locs cells slots Q (F0 m (pc + 3) ls rest)) : W p l e R s m args below meth c H locs cells slots Q (F0 m pc ls (.int (iI b) :: .int (iI a) :: rest)) := lv_icmp_le hx hb hdg ht (fun z => kt ((iI_le ha hbr).mp z)) (fun z => kf (fun z2 => z ((iI_le ha hbr).mpr z2)))
variable {D : va_G} {cl : List vw_C} {tys : List (ClassId × FieldType)} {ws : va_W} {A : Nat → Prop} {H0 : Heap} {a : Nat} {cA : ClassId} {n : Nat} {f : Nat → Int32}
theorem ed_iald (hx : p.tables.exec = Jvm.exec) (hb : c.code = cc) (hK : va_K D cl tys s) (hP : va_P D cl ws H) (q0 t0 : Nat) (ha : ws[q0]? = some (a, .inl (cA, n, .inl f))) (ht : tys[t0]? = some (cA, .int)) {z y : Int} (i : Nat) (hi : z = (i : Int)) (hin : i < n) (hn : n < 2147483648) (hy : f i = iI y) (hdg : decode cc pc = .ok (.iaload, 1)) (kk : W p l e R s m args below meth c H locs cells slots Q (F0 m (pc + 1) ls (.int (iI y) :: rest))) : W p l e R s m args below meth c H locs cells slots Q (F0 m pc ls (.int (iI z) :: .ref a :: rest)) := by
  subst hi
  refine va_iald hx hb hK hP q0 t0 ha ht (iI_in (by omega) (by omega) hn) hdg ?_
  rw [iI_clampN (by omega), hy]
  exact kk
theorem ed_bald (hx : p.tables.exec = Jvm.exec) (hb : c.code = cc) (hK : va_K D cl tys s) (hP : va_P D cl ws H) (q0 t0 : Nat) (ha : ws[q0]? = some (a, .inl (cA, n, .inl f))) (ht : tys[t0]? = some (cA, .byte)) {z y : Int} (i : Nat) (hi : z = (i : Int)) (hin : i < n) (hn : n < 2147483648) (hy : f i = iI y) (hdg : decode cc pc = .ok (.baload, 1)) (kk : W p l e R s m args below meth c H locs cells slots Q (F0 m (pc + 1) ls (.int (iI y) :: rest))) : W p l e R s m args below meth c H locs cells slots Q (F0 m pc ls (.int (iI z) :: .ref a :: rest)) := by
  subst hi
  refine va_bald hx hb hK hP q0 t0 ha ht (iI_in (by omega) (by omega) hn) hdg ?_
  rw [iI_clampN (by omega), hy]
  exact kk
theorem ed_iast (hx : p.tables.exec = Jvm.exec) (hb : c.code = cc) (hK : va_K D cl tys s) (hP : va_P D cl ws H) (hD : va_D A ws) (hS : va_S A H0 H locs) (q0 t0 : Nat) (ha : ws[q0]? = some (a, .inl (cA, n, .inl f))) (ht : tys[t0]? = some (cA, .int)) {z : Int} {x : Int32} (i : Nat) (hi : z = (i : Int)) (hin : i < n) (hn : n < 2147483648) (hdg : decode cc pc = .ok (.iastore, 1)) (kk : ∀ (H1 : Heap) (locs1 : List Loc), va_P D cl (ws.set q0 (a, .inl (cA, n, .inl (upd f i x)))) H1 → va_D A (ws.set q0 (a, .inl (cA, n, .inl (upd f i x)))) → va_S A H0 H1 locs1 → W p l e R s m args below meth c H1 locs1 cells slots Q (F0 m (pc + 1) ls rest)) : W p l e R s m args below meth c H locs cells slots Q (F0 m pc ls (.int x :: .int (iI z) :: .ref a :: rest)) := by
  subst hi
  refine va_iast hx hb hK hP hD hS q0 t0 ha ht (iI_in (by omega) (by omega) hn) hdg ?_
  rw [iI_clampN (by omega)]
  exact kk
theorem ed_bast (hx : p.tables.exec = Jvm.exec) (hb : c.code = cc) (hK : va_K D cl tys s) (hP : va_P D cl ws H) (hD : va_D A ws) (hS : va_S A H0 H locs) (q0 t0 : Nat) (ha : ws[q0]? = some (a, .inl (cA, n, .inl f))) (ht : tys[t0]? = some (cA, .byte)) {z x : Int} (i : Nat) (hi : z = (i : Int)) (hin : i < n) (hn : n < 2147483648) (hv : -128 ≤ x ∧ x < 128) (hdg : decode cc pc = .ok (.bastore, 1)) (kk : ∀ (H1 : Heap) (locs1 : List Loc), va_P D cl (ws.set q0 (a, .inl (cA, n, .inl (upd f i (iI x))))) H1 → va_D A (ws.set q0 (a, .inl (cA, n, .inl (upd f i (iI x))))) → va_S A H0 H1 locs1 → W p l e R s m args below meth c H1 locs1 cells slots Q (F0 m (pc + 1) ls rest)) : W p l e R s m args below meth c H locs cells slots Q (F0 m pc ls (.int (iI x) :: .int (iI z) :: .ref a :: rest)) := by
  subst hi
  refine va_bast hx hb hK hP hD hS q0 t0 ha ht (iI_in (by omega) (by omega) hn) hdg ?_
  rw [iI_clampN (by omega), iI_nar hv]
  exact kk
theorem ed_lif_eq (hx : p.tables.exec = Jvm.exec) (hb : c.code = cc) {a b : Int} {off : Int} {tgt : Nat} (hd1 : decode cc pc = .ok (.lcmp, 1)) (hd2 : decode cc (pc + 1) = .ok (.ifCond .eq off, 3)) (ht : ((pc + 1 : Nat) : Int) + off = (tgt : Int)) (ha : jR a) (hbr : jR b) (kt : a = b → W p l e R s m args below meth c H locs cells slots Q (F0 m tgt ls rest)) (kf : ¬ a = b → W p l e R s m args below meth c H locs cells slots Q (F0 m (pc + 1 + 3) ls rest)) : W p l e R s m args below meth c H locs cells slots Q (F0 m pc ls (.long (jI b) :: .long (jI a) :: rest)) := W.lcmp hx hb hd1 (lv_if_eq hx hb hd2 ht (fun z => kt (((lg_cmp_eq _ _).trans (jI_eq ha hbr)).mp z)) (fun z => kf (fun z2 => z (((lg_cmp_eq _ _).trans (jI_eq ha hbr)).mpr z2))))
theorem ed_lif_ne (hx : p.tables.exec = Jvm.exec) (hb : c.code = cc) {a b : Int} {off : Int} {tgt : Nat} (hd1 : decode cc pc = .ok (.lcmp, 1)) (hd2 : decode cc (pc + 1) = .ok (.ifCond .ne off, 3)) (ht : ((pc + 1 : Nat) : Int) + off = (tgt : Int)) (ha : jR a) (hbr : jR b) (kt : ¬ a = b → W p l e R s m args below meth c H locs cells slots Q (F0 m tgt ls rest)) (kf : a = b → W p l e R s m args below meth c H locs cells slots Q (F0 m (pc + 1 + 3) ls rest)) : W p l e R s m args below meth c H locs cells slots Q (F0 m pc ls (.long (jI b) :: .long (jI a) :: rest)) := W.lcmp hx hb hd1 (lv_if_ne hx hb hd2 ht (fun z => kt (fun z2 => z (((lg_cmp_eq _ _).trans (jI_eq ha hbr)).mpr z2))) (fun z => kf (((lg_cmp_eq _ _).trans (jI_eq ha hbr)).mp z)))
theorem ed_lif_lt (hx : p.tables.exec = Jvm.exec) (hb : c.code = cc) {a b : Int} {off : Int} {tgt : Nat} (hd1 : decode cc pc = .ok (.lcmp, 1)) (hd2 : decode cc (pc + 1) = .ok (.ifCond .lt off, 3)) (ht : ((pc + 1 : Nat) : Int) + off = (tgt : Int)) (ha : jR a) (hbr : jR b) (kt : a < b → W p l e R s m args below meth c H locs cells slots Q (F0 m tgt ls rest)) (kf : ¬ a < b → W p l e R s m args below meth c H locs cells slots Q (F0 m (pc + 1 + 3) ls rest)) : W p l e R s m args below meth c H locs cells slots Q (F0 m pc ls (.long (jI b) :: .long (jI a) :: rest)) := W.lcmp hx hb hd1 (lv_if_lt hx hb hd2 ht (fun z => kt (((lg_cmp_lt _ _).trans (jI_lt ha hbr)).mp z)) (fun z => kf (fun z2 => z (((lg_cmp_lt _ _).trans (jI_lt ha hbr)).mpr z2))))
theorem ed_lif_ge (hx : p.tables.exec = Jvm.exec) (hb : c.code = cc) {a b : Int} {off : Int} {tgt : Nat} (hd1 : decode cc pc = .ok (.lcmp, 1)) (hd2 : decode cc (pc + 1) = .ok (.ifCond .ge off, 3)) (ht : ((pc + 1 : Nat) : Int) + off = (tgt : Int)) (ha : jR a) (hbr : jR b) (kt : b ≤ a → W p l e R s m args below meth c H locs cells slots Q (F0 m tgt ls rest)) (kf : ¬ b ≤ a → W p l e R s m args below meth c H locs cells slots Q (F0 m (pc + 1 + 3) ls rest)) : W p l e R s m args below meth c H locs cells slots Q (F0 m pc ls (.long (jI b) :: .long (jI a) :: rest)) := W.lcmp hx hb hd1 (lv_if_ge hx hb hd2 ht (fun z => kt (((lg_cmp_ge _ _).trans (jI_le hbr ha)).mp z)) (fun z => kf (fun z2 => z (((lg_cmp_ge _ _).trans (jI_le hbr ha)).mpr z2))))
theorem ed_lif_gt (hx : p.tables.exec = Jvm.exec) (hb : c.code = cc) {a b : Int} {off : Int} {tgt : Nat} (hd1 : decode cc pc = .ok (.lcmp, 1)) (hd2 : decode cc (pc + 1) = .ok (.ifCond .gt off, 3)) (ht : ((pc + 1 : Nat) : Int) + off = (tgt : Int)) (ha : jR a) (hbr : jR b) (kt : b < a → W p l e R s m args below meth c H locs cells slots Q (F0 m tgt ls rest)) (kf : ¬ b < a → W p l e R s m args below meth c H locs cells slots Q (F0 m (pc + 1 + 3) ls rest)) : W p l e R s m args below meth c H locs cells slots Q (F0 m pc ls (.long (jI b) :: .long (jI a) :: rest)) := W.lcmp hx hb hd1 (lv_if_gt hx hb hd2 ht (fun z => kt (((lg_cmp_gt _ _).trans (jI_lt hbr ha)).mp z)) (fun z => kf (fun z2 => z (((lg_cmp_gt _ _).trans (jI_lt hbr ha)).mpr z2))))
theorem ed_lif_le (hx : p.tables.exec = Jvm.exec) (hb : c.code = cc) {a b : Int} {off : Int} {tgt : Nat} (hd1 : decode cc pc = .ok (.lcmp, 1)) (hd2 : decode cc (pc + 1) = .ok (.ifCond .le off, 3)) (ht : ((pc + 1 : Nat) : Int) + off = (tgt : Int)) (ha : jR a) (hbr : jR b) (kt : a ≤ b → W p l e R s m args below meth c H locs cells slots Q (F0 m tgt ls rest)) (kf : ¬ a ≤ b → W p l e R s m args below meth c H locs cells slots Q (F0 m (pc + 1 + 3) ls rest)) : W p l e R s m args below meth c H locs cells slots Q (F0 m pc ls (.long (jI b) :: .long (jI a) :: rest)) := W.lcmp hx hb hd1 (lv_if_le hx hb hd2 ht (fun z => kt (((lg_cmp_le _ _).trans (jI_le ha hbr)).mp z)) (fun z => kf (fun z2 => z (((lg_cmp_le _ _).trans (jI_le ha hbr)).mpr z2))))
end EdRows
end
section
/-! Pure numbers: decimal length, zeros behind, digits in base ten and in base 10^9 -/
theorem p10_pos (k : Nat) : 0 < 10 ^ k := Nat.pow_pos (by decide)
theorem pB_pos (k : Nat) : 0 < 1000000000 ^ k := Nat.pow_pos (by decide)
theorem pB_10 (k : Nat) : 1000000000 ^ k = 10 ^ (9 * k) := by rw [Nat.pow_mul]
theorem p10_le {a b : Nat} (h : a ≤ b) : 10 ^ a ≤ 10 ^ b := Nat.pow_le_pow_right (by decide) h
theorem p10_lt {a b : Nat} (h : 10 ^ a < 10 ^ b) : a < b := (Nat.pow_lt_pow_iff_right (by decide)).mp h
theorem p10_lt' {a b : Nat} (h : a < b) : 10 ^ a < 10 ^ b := Nat.pow_lt_pow_right (by decide) h
/-- how many decimal digits -/
def dl (n : Nat) : Nat := if h : 0 < n then dl (n / 10) + 1 else 0
termination_by n
decreasing_by omega
theorem dl_0 : dl 0 = 0 := by rw [dl]; simp
theorem dl_s {n : Nat} (h : 0 < n) : dl n = dl (n / 10) + 1 := by rw [dl]; simp [h]
theorem dl_lt (n : Nat) : n < 10 ^ dl n := by
  induction n using Nat.strongRecOn with
  | ind n ih =>
    rcases Nat.eq_zero_or_pos n with rfl | h
    · rw [dl_0]; decide
    · have := ih (n / 10) (by omega)
      rw [dl_s h, Nat.pow_succ]
      omega
theorem dl_le {n : Nat} (h : 0 < n) : 10 ^ (dl n - 1) ≤ n := by
  induction n using Nat.strongRecOn with
  | ind n ih =>
    rw [dl_s h, Nat.add_sub_cancel]
    rcases Nat.eq_zero_or_pos (n / 10) with h0 | h1
    · rw [h0, dl_0]; exact h
    · have := ih (n / 10) (by omega) h1
      have h2 : dl (n / 10) = (dl (n / 10) - 1) + 1 := by rw [dl_s h1]; omega
      rw [h2, Nat.pow_succ]
      omega
theorem dl_pos {n : Nat} (h : 0 < n) : 0 < dl n := by rw [dl_s h]; omega
theorem dl_eq0 {n : Nat} (h : dl n = 0) : n = 0 := by
  rcases Nat.eq_zero_or_pos n with h0 | h1
  · exact h0
  · have := dl_pos h1; omega
theorem dl_un {n L : Nat} (h1 : n < 10 ^ L) (h2 : 0 < L → 10 ^ (L - 1) ≤ n) : dl n = L := by
  rcases Nat.lt_trichotomy (dl n) L with h | h | h
  · have a := dl_lt n
    have b := h2 (by omega)
    have d := p10_le (show dl n ≤ L - 1 by omega)
    omega
  · exact h
  · have hn : 0 < n := by
      rcases Nat.eq_zero_or_pos n with h0 | h1
      · subst h0; rw [dl_0] at h; omega
      · exact h1
    have a := dl_le hn
    have d := p10_le (show L ≤ dl n - 1 by omega)
    omega
theorem dl_mono {a b : Nat} (h : a ≤ b) : dl a ≤ dl b := by
  rcases Nat.eq_zero_or_pos a with rfl | ha
  · rw [dl_0]; omega
  · have h1 := dl_le ha
    have h2 := dl_lt b
    have h3 : dl a - 1 < dl b := p10_lt (by omega)
    omega
theorem dl_bound {n L : Nat} (h : n < 10 ^ L) : dl n ≤ L := by
  rcases Nat.eq_zero_or_pos n with rfl | ha
  · rw [dl_0]; omega
  · have h1 := dl_le ha
    have h3 : dl n - 1 < L := p10_lt (by omega)
    omega
theorem dl_ge {n L : Nat} (h : 10 ^ L ≤ n) : L < dl n := by
  have h2 := dl_lt n
  exact p10_lt (by omega)
theorem dl_mul {n : Nat} (h : 0 < n) (k : Nat) : dl (n * 10 ^ k) = dl n + k := by
  apply dl_un
  · rw [Nat.pow_add]; exact Nat.mul_lt_mul_of_pos_right (dl_lt n) (p10_pos k)
  · intro _
    have h1 := dl_pos h
    have h2 : dl n + k - 1 = dl n - 1 + k := by omega
    rw [h2, Nat.pow_add]
    exact Nat.mul_le_mul_right _ (dl_le h)
theorem dl_div (n k : Nat) : dl (n / 10 ^ k) = dl n - k := by
  rcases Nat.lt_or_ge n (10 ^ k) with h | h
  · rw [Nat.div_eq_of_lt h, dl_0]
    have := dl_bound h
    omega
  · have hn : 0 < n := Nat.lt_of_lt_of_le (p10_pos k) h
    have hk := dl_ge h
    apply dl_un
    · rw [Nat.div_lt_iff_lt_mul (p10_pos k), ← Nat.pow_add]
      have : dl n - k + k = dl n := by omega
      rw [this]; exact dl_lt n
    · intro _
      rw [Nat.le_div_iff_mul_le (p10_pos k), ← Nat.pow_add]
      have : dl n - k - 1 + k = dl n - 1 := by omega
      rw [this]; exact dl_le hn
/-- without the zeros behind -/
def rz (n : Nat) : Nat := if h : 0 < n ∧ n % 10 = 0 then rz (n / 10) else n
termination_by n
decreasing_by omega
/-- how many zeros stood behind -/
def rt (n : Nat) : Nat := if h : 0 < n ∧ n % 10 = 0 then rt (n / 10) + 1 else 0
termination_by n
decreasing_by omega
theorem rz_y {n : Nat} (h : 0 < n) (h2 : n % 10 = 0) : rz n = rz (n / 10) := by rw [rz]; simp [h, h2]
theorem rz_n {n : Nat} (h : ¬ n % 10 = 0) : rz n = n := by rw [rz]; simp [h]
theorem rz_0 : rz 0 = 0 := by rw [rz]; simp
theorem rt_y {n : Nat} (h : 0 < n) (h2 : n % 10 = 0) : rt n = rt (n / 10) + 1 := by rw [rt]; simp [h, h2]
theorem rt_n {n : Nat} (h : ¬ n % 10 = 0) : rt n = 0 := by rw [rt]; simp [h]
theorem rt_0 : rt 0 = 0 := by rw [rt]; simp
theorem rz_eq (n : Nat) : n = rz n * 10 ^ rt n := by
  induction n using Nat.strongRecOn with
  | ind n ih =>
    rcases Nat.eq_zero_or_pos n with rfl | h
    · rw [rz_0]; simp
    · by_cases h2 : n % 10 = 0
      · have := ih (n / 10) (by omega)
        rw [rz_y h h2, rt_y h h2, Nat.pow_succ, ← Nat.mul_assoc, ← this]
        omega
      · rw [rz_n h2, rt_n h2]; simp
theorem rz_last {n : Nat} (h : 0 < n) : ¬ rz n % 10 = 0 := by
  induction n using Nat.strongRecOn with
  | ind n ih =>
    by_cases h2 : n % 10 = 0
    · rw [rz_y h h2]; exact ih (n / 10) (by omega) (by omega)
    · rw [rz_n h2]; exact h2
theorem rz_pos {n : Nat} (h : 0 < n) : 0 < rz n := by
  have := rz_last h
  omega
theorem rz_mul (n k : Nat) : rz (n * 10 ^ k) = rz n := by
  induction k with
  | zero => simp
  | succ k ih =>
    rcases Nat.eq_zero_or_pos n with rfl | h
    · simp
    · have h1 : n * 10 ^ (k + 1) = n * 10 ^ k * 10 := by rw [Nat.pow_succ, Nat.mul_assoc]
      have h2 : 0 < n * 10 ^ k := Nat.mul_pos h (p10_pos k)
      rw [h1, rz_y (by omega) (by omega), Nat.mul_div_cancel _ (by decide), ih]
theorem rz_un {n d t : Nat} (h : n = d * 10 ^ t) (hd : ¬ d % 10 = 0) : rz n = d := by
  rw [h, rz_mul, rz_n hd]
theorem rz_rz (n : Nat) : rz (rz n) = rz n := by
  rcases Nat.eq_zero_or_pos n with rfl | h
  · rw [rz_0, rz_0]
  · exact rz_n (rz_last h)
theorem dl_rz {n : Nat} (h : 0 < n) : dl n = dl (rz n) + rt n := by
  have h1 := dl_mul (rz_pos h) (rt n)
  rw [← rz_eq n] at h1
  exact h1
theorem rz_le (n : Nat) : rz n ≤ n := by
  have h := rz_eq n
  have h2 : rz n * 1 ≤ rz n * 10 ^ rt n := Nat.mul_le_mul_left _ (p10_pos _)
  omega
/-! digits -/
theorem nb_mod (b V i : Nat) : V % b ^ (i + 1) = V % b ^ i + b ^ i * (V / b ^ i % b) := by rw [Nat.pow_succ, Nat.mod_mul]
/-- 'times': the product at a part -/
theorem tm_prod {b : Nat} (hb : 0 < b) (V F i : Nat) : (V % b ^ (i + 1)) * F / b ^ i = (V / b ^ i % b) * F + (V % b ^ i) * F / b ^ i := by
  rw [nb_mod, Nat.add_comm, Nat.add_mul, Nat.mul_assoc, Nat.mul_add_div (Nat.pow_pos hb)]
theorem tm_carry {b : Nat} (hb : 0 < b) (V F i : Nat) : ((V / b ^ i % b) * F + (V % b ^ i) * F / b ^ i) / b = (V % b ^ (i + 1)) * F / b ^ (i + 1) := by
  rw [← tm_prod hb, Nat.div_div_eq_div_mul, ← Nat.pow_succ]
theorem tm_digit {b : Nat} (hb : 0 < b) (V F i : Nat) : ((V / b ^ i % b) * F + (V % b ^ i) * F / b ^ i) % b = V * F / b ^ i % b := by
  rw [← tm_prod hb]
  have h : V * F = b ^ i * (b * (V / b ^ (i + 1) * F)) + (V % b ^ (i + 1)) * F := by
    have h1 : V = b ^ (i + 1) * (V / b ^ (i + 1)) + V % b ^ (i + 1) := (Nat.div_add_mod V _).symm
    have h2 : V * F = (b ^ (i + 1) * (V / b ^ (i + 1)) + V % b ^ (i + 1)) * F := by rw [← h1]
    rw [h2, Nat.add_mul, Nat.pow_succ]
    simp only [Nat.mul_assoc]
  rw [h, Nat.mul_add_div (Nat.pow_pos hb), Nat.mul_add_mod]
theorem tm_last {b V F i : Nat} (h : V < b ^ i) : (V % b ^ i) * F / b ^ i = V * F / b ^ i := by rw [Nat.mod_eq_of_lt h]
theorem tm_small {b V F i : Nat} (hb : 0 < b) (hF : 0 < F) : (V % b ^ i) * F / b ^ i < F := by
  rw [Nat.div_lt_iff_lt_mul (Nat.pow_pos hb), Nat.mul_comm]
  exact Nat.mul_lt_mul_of_pos_left (Nat.mod_lt _ (Nat.pow_pos hb)) hF
/-- digits of a part -/
theorem pt_digit (x r : Nat) (hr : r < 9) : x % 1000000000 / 10 ^ r % 10 = x / 10 ^ r % 10 := by
  have h : 1000000000 = 10 ^ r * 10 ^ (9 - r) := by
    rw [← Nat.pow_add]
    have : r + (9 - r) = 9 := by omega
    rw [this]
  rw [h, Nat.mod_mul_right_div_self, Nat.mod_mod_of_dvd]
  exact ⟨10 ^ (9 - r - 1), by rw [← Nat.pow_succ']; congr 1; omega⟩
theorem nb_digit (V q : Nat) : V / 1000000000 ^ (q / 9) % 1000000000 / 10 ^ (q % 9) % 10 = V / 10 ^ q % 10 := by
  rw [pt_digit _ _ (Nat.mod_lt _ (by decide)), Nat.div_div_eq_div_mul, pB_10, ← Nat.pow_add]
  have : 9 * (q / 9) + q % 9 = q := by omega
  rw [this]
/-- 'setDigits': a digit more -/
theorem sd_step (x t : Nat) : x / 10 % 10 ^ t * 10 + x % 10 = x % 10 ^ (t + 1) := by
  rw [Nat.pow_succ, Nat.mul_comm (10 ^ t) 10, Nat.mod_mul, Nat.mul_comm 10, Nat.add_comm]
/-- the first k of L digits -/
theorem dg_first {D L i : Nat} (h : i < L) : D / 10 ^ (L - (i + 1)) = D / 10 ^ (L - i) * 10 + D / 10 ^ (L - 1 - i) % 10 := by
  have h1 : L - i = L - (i + 1) + 1 := by omega
  have h2 : L - 1 - i = L - (i + 1) := by omega
  rw [h1, h2, Nat.pow_succ, ← Nat.div_div_eq_div_mul]
  omega
/-! the state of a Natural: its parts are those of V -/
def nt_ok (f : Nat → Int32) (sz V : Nat) : Prop := sz ≤ 306 ∧ V < 1000000000 ^ sz ∧ (0 < sz → 1000000000 ^ (sz - 1) ≤ V) ∧ ∀ i, i < sz → f i = iI ((V / 1000000000 ^ i % 1000000000 : Nat) : Int)
/-- the digits of D, L of them, stand in f -/
def dg_ok (f : Nat → Int32) (L D : Nat) : Prop := ∀ i, i < L → f i = iI ((D / 10 ^ (L - 1 - i) % 10 : Nat) : Int)
/-- a byte array that holds numbers of a byte -/
def by_ok (f : Nat → Int32) : Prop := ∀ i, ∃ z : Int, -128 ≤ z ∧ z < 128 ∧ f i = iI z
theorem by_up {f : Nat → Int32} {k : Nat} {z : Int} (h : by_ok f) (hz : -128 ≤ z ∧ z < 128) : by_ok (upd f k (iI z)) := fun i => by
  by_cases e : i = k
  · subst e; exact ⟨z, hz.1, hz.2, pk_us⟩
  · obtain ⟨y, a, b, d⟩ := h i; exact ⟨y, a, b, by rw [pk_un e]; exact d⟩
theorem dg_lt (D k : Nat) : D / 10 ^ k % 10 < 10 := Nat.mod_lt _ (by decide)
theorem nb_lt (V i : Nat) : V / 1000000000 ^ i % 1000000000 < 1000000000 := Nat.mod_lt _ (by decide)
theorem nt_len {f : Nat → Int32} {sz V : Nat} (h : nt_ok f sz V) (h0 : 0 < sz) : dl V = 9 * (sz - 1) + dl (V / 1000000000 ^ (sz - 1)) := by
  obtain ⟨-, h1, h2, -⟩ := h
  have h3 := h2 h0
  rw [pB_10, dl_div]
  rw [pB_10] at h3
  have := dl_ge h3
  omega
theorem nt_top {f : Nat → Int32} {sz V : Nat} (h : nt_ok f sz V) (h0 : 0 < sz) : V / 1000000000 ^ (sz - 1) % 1000000000 = V / 1000000000 ^ (sz - 1) ∧ 0 < V / 1000000000 ^ (sz - 1) := by
  obtain ⟨-, h1, h2, -⟩ := h
  constructor
  · apply Nat.mod_eq_of_lt
    rw [Nat.div_lt_iff_lt_mul (pB_pos _), Nat.mul_comm, ← Nat.pow_succ]
    have : (sz - 1).succ = sz := by omega
    rw [this]; exact h1
  · exact Nat.div_pos (h2 h0) (pB_pos _)
theorem nt_zero {f : Nat → Int32} {sz V : Nat} (h : nt_ok f sz V) : sz = 0 ↔ V = 0 := by
  obtain ⟨-, h1, h2, -⟩ := h
  constructor
  · intro e; subst e; simpa using h1
  · intro e; subst e
    rcases Nat.eq_zero_or_pos sz with h | h
    · exact h
    · have := h2 h; have := pB_pos (sz - 1); omega
theorem rz_mr (a b : Nat) : rz (rz a * b) = rz (a * b) := by
  have h : a * b = rz a * b * 10 ^ rt a := by
    have := rz_eq a
    calc a * b = rz a * 10 ^ rt a * b := by rw [← this]
      _ = rz a * b * 10 ^ rt a := by rw [Nat.mul_right_comm]
  rw [h, rz_mul]
theorem dl_tele {a b : Nat} (ha : 0 < a) (hb : 0 < b) : dl (rz a * b) + dl a = dl (a * b) + dl (rz a) := by
  have h : a * b = rz a * b * 10 ^ rt a := by
    have := rz_eq a
    calc a * b = rz a * 10 ^ rt a * b := by rw [← this]
      _ = rz a * b * 10 ^ rt a := by rw [Nat.mul_right_comm]
  rw [h, dl_mul (Nat.mul_pos (rz_pos ha) hb), dl_rz ha]
  omega
/-- the digits of X without its last, where that is 0 -/
theorem dg_drop {f : Nat → Int32} {n X : Nat} (h : dg_ok f (n + 1) X) : dg_ok f n (X / 10) := by
  intro i hi
  rw [h i (by omega)]
  have e : n + 1 - 1 - i = 1 + (n - 1 - i) := by omega
  rw [e, Nat.pow_add, Nat.pow_one, Nat.div_div_eq_div_mul]
theorem dg_dropk {f : Nat → Int32} {n k X : Nat} (h : dg_ok f (n + k) X) : dg_ok f n (X / 10 ^ k) := by
  intro i hi
  rw [h i (by omega)]
  have e : n + k - 1 - i = k + (n - 1 - i) := by omega
  rw [e, Nat.pow_add, Nat.div_div_eq_div_mul]
theorem dg_pre {f : Nat → Int32} {L D n : Nat} (h : dg_ok f L D) (hn : n ≤ L) : dg_ok f n (D / 10 ^ (L - n)) := by
  have e : n + (L - n) = L := by omega
  exact dg_dropk (k := L - n) (by rw [e]; exact h)
/-- the last of the first i+1 digits -/
theorem dg_last {D L i : Nat} (h : i < L) : D / 10 ^ (L - (i + 1)) % 10 = D / 10 ^ (L - 1 - i) % 10 := by
  have : L - (i + 1) = L - 1 - i := by omega
  rw [this]
theorem p2_10 (k : Nat) : 2 ^ k ≤ 10 ^ k := Nat.pow_le_pow_left (by decide) k
theorem p5_10 (k : Nat) : 5 ^ k ≤ 10 ^ k := Nat.pow_le_pow_left (by decide) k
theorem p5_7 (k : Nat) : 5 ^ (10 * k) ≤ 10 ^ (7 * k) := by
  rw [Nat.pow_mul, Nat.pow_mul]; exact Nat.pow_le_pow_left (by decide) k
theorem p2_4 (k : Nat) : 2 ^ (10 * k) ≤ 10 ^ (4 * k) := by
  rw [Nat.pow_mul, Nat.pow_mul]; exact Nat.pow_le_pow_left (by decide) k
/-- how many bits -/
def bl (n : Nat) : Nat := if h : 0 < n then bl (n / 2) + 1 else 0
termination_by n
decreasing_by omega
theorem bl_0 : bl 0 = 0 := by rw [bl]; simp
theorem bl_s {n : Nat} (h : 0 < n) : bl n = bl (n / 2) + 1 := by rw [bl]; simp [h]
theorem bl_lt (n : Nat) : n < 2 ^ bl n := by
  induction n using Nat.strongRecOn with
  | ind n ih =>
    rcases Nat.eq_zero_or_pos n with rfl | h
    · rw [bl_0]; decide
    · have := ih (n / 2) (by omega)
      rw [bl_s h, Nat.pow_succ]
      omega
theorem bl_le {n : Nat} (h : 0 < n) : 2 ^ (bl n - 1) ≤ n := by
  induction n using Nat.strongRecOn with
  | ind n ih =>
    rw [bl_s h, Nat.add_sub_cancel]
    rcases Nat.eq_zero_or_pos (n / 2) with h0 | h1
    · rw [h0, bl_0]; exact h
    · have := ih (n / 2) (by omega) h1
      have h2 : bl (n / 2) = (bl (n / 2) - 1) + 1 := by rw [bl_s h1]; omega
      rw [h2, Nat.pow_succ]
      omega
theorem bl_pos {n : Nat} (h : 0 < n) : 0 < bl n := by rw [bl_s h]; omega
theorem p2_lt {a b : Nat} (h : 2 ^ a < 2 ^ b) : a < b := (Nat.pow_lt_pow_iff_right (by decide)).mp h
theorem bl_bound {n L : Nat} (h : n < 2 ^ L) : bl n ≤ L := by
  rcases Nat.eq_zero_or_pos n with rfl | ha
  · rw [bl_0]; omega
  · have h1 := bl_le ha
    have h3 : bl n - 1 < L := p2_lt (by omega)
    omega
theorem bl_ge {n L : Nat} (h : 2 ^ L ≤ n) : L < bl n := by
  have h2 := bl_lt n
  exact p2_lt (by omega)
theorem bl_iff {n L : Nat} : bl n ≤ L ↔ n < 2 ^ L := by
  constructor
  · intro h
    exact Nat.lt_of_lt_of_le (bl_lt n) (Nat.pow_le_pow_right (by decide) h)
  · exact bl_bound
theorem bl_un {n L : Nat} (h1 : n < 2 ^ L) (h2 : 0 < L → 2 ^ (L - 1) ≤ n) : bl n = L := by
  have a := bl_bound h1
  rcases Nat.eq_zero_or_pos L with rfl | h
  · omega
  · have := bl_ge (h2 h); omega
end
section
/-! The nearest: P / M counts units of the least; E places are dropped, q is kept, u is counted up -/
theorem p2_pos (k : Nat) : 0 < 2 ^ k := Nat.pow_pos (by decide)
def nr (sz P M E q : Nat) : Prop := q = P / (M * 2 ^ E) ∧ q < 2 ^ sz ∧ (0 < E → 2 ^ (sz - 1) ≤ q)
theorem nr_lt {sz P M E q E' q' : Nat} (hs : 0 < sz) (h : nr sz P M E q) (h' : nr sz P M E' q') : ¬ E < E' := by
  intro hlt
  obtain ⟨d, rfl⟩ : ∃ d, E' = E + (d + 1) := ⟨E' - E - 1, by omega⟩
  obtain ⟨h1, h2, -⟩ := h
  obtain ⟨h1', -, h3'⟩ := h'
  have h3 := h3' (by omega)
  rw [Nat.pow_add, ← Nat.mul_assoc, ← Nat.div_div_eq_div_mul, ← h1, Nat.pow_succ, Nat.mul_comm (2 ^ d), ← Nat.div_div_eq_div_mul] at h1'
  have h4 : q / 2 / 2 ^ d ≤ q / 2 := Nat.div_le_self _ _
  have h5 : 2 ^ sz = 2 ^ (sz - 1) * 2 := by rw [← Nat.pow_succ]; congr 1; omega
  omega
theorem nr_un {sz P M E q E' q' : Nat} (hs : 0 < sz) (h : nr sz P M E q) (h' : nr sz P M E' q') : E = E' ∧ q = q' := by
  have a := nr_lt hs h h'
  have b := nr_lt hs h' h
  have e : E = E' := by omega
  subst e
  exact ⟨rfl, h.1.trans h'.1.symm⟩
def upP (P M E q : Nat) (b : Prop) : Prop := (2 * q + 1) * (M * 2 ^ E) < 2 * P ∨ ((2 * q + 1) * (M * 2 ^ E) = 2 * P ∧ (b ∨ q % 2 = 1))
def NR (sz inf P M : Nat) (b : Prop) (r : Nat) : Prop := ∃ E q u, nr sz P M E q ∧ ((u = 1 ∧ upP P M E q b) ∨ (u = 0 ∧ ¬ upP P M E q b)) ∧ r = min inf (E * 2 ^ (sz - 1) + q + u)
theorem NR_un {sz inf P M : Nat} {b : Prop} {r r' : Nat} (hs : 0 < sz) (h : NR sz inf P M b r) (h' : NR sz inf P M b r') : r = r' := by
  obtain ⟨E, q, u, h1, h2, h3⟩ := h
  obtain ⟨E', q', u', h1', h2', h3'⟩ := h'
  obtain ⟨rfl, rfl⟩ := nr_un hs h1 h1'
  rcases h2 with ⟨rfl, a⟩ | ⟨rfl, a⟩ <;> rcases h2' with ⟨rfl, a'⟩ | ⟨rfl, a'⟩
  · rw [h3, h3']
  · exact absurd a a'
  · exact absurd a' a
  · rw [h3, h3']
/-- what is kept in two ways is one -/
theorem cn_un {w E q E' q' : Nat} (h2 : q < 2 * w) (h3 : 0 < E → w ≤ q) (h2' : q' < 2 * w) (h3' : 0 < E' → w ≤ q') (h : E * w + q = E' * w + q') : E = E' ∧ q = q' := by
  have key : ∀ {E q E' q' : Nat}, q < 2 * w → (0 < E' → w ≤ q') → E * w + q = E' * w + q' → ¬ E < E' := by
    intro E q E' q' h2 h3' h hlt
    have h5 := h3' (by omega)
    obtain ⟨d, rfl⟩ : ∃ d, E' = E + (d + 1) := ⟨E' - E - 1, by omega⟩
    rw [Nat.add_mul, Nat.add_mul, Nat.one_mul] at h
    omega
  have a := key h2 h3' h
  have b := key h2' h3 h.symm
  have e : E = E' := by omega
  subst e
  exact ⟨rfl, by omega⟩
/-- the numbers that read back to what is kept: (E, m) -/
def inI (sz P M E m : Nat) : Prop :=
  (2 * P < (2 * m + 1) * (M * 2 ^ E) ∨ (2 * P = (2 * m + 1) * (M * 2 ^ E) ∧ m % 2 = 0)) ∧
  ((m = 2 ^ (sz - 1) ∧ 0 < E ∧ (4 * m - 1) * (M * 2 ^ E) ≤ 4 * P) ∨
   (¬ (m = 2 ^ (sz - 1) ∧ 0 < E) ∧ ((2 * m - 1) * (M * 2 ^ E) < 2 * P ∨ ((2 * m - 1) * (M * 2 ^ E) = 2 * P ∧ m % 2 = 0))))
theorem dv_le {P K q : Nat} (hK : 0 < K) (h : q = P / K) : q * K ≤ P ∧ P < (q + 1) * K := by
  subst h
  exact ⟨Nat.div_mul_le_self _ _, by rw [Nat.mul_comm]; exact Nat.lt_mul_div_succ _ hK⟩
theorem dv_eq {P K q : Nat} (h1 : q * K ≤ P) (h2 : P < (q + 1) * K) : q = P / K := by
  symm
  have hK : 0 < K := by
    rcases Nat.eq_zero_or_pos K with h | h
    · subst h; simp at h2
    · exact h
  apply Nat.le_antisymm
  · have := (Nat.div_lt_iff_lt_mul hK).mpr h2
    omega
  · exact (Nat.le_div_iff_mul_le hK).mpr h1
theorem rb_of {sz inf P M r E m : Nat} (hs : 2 ≤ sz) (hM : 0 < M) (h : NR sz inf P M False r) (hm : 0 < m) (hm2 : m < 2 ^ sz) (hc : 0 < E → 2 ^ (sz - 1) ≤ m) (hinf : E * 2 ^ (sz - 1) + m < inf) (hr : r = E * 2 ^ (sz - 1) + m) : inI sz P M E m := by
  obtain ⟨E', q, u, ⟨h1, h2, h3⟩, hu, h4⟩ := h
  have hw : 2 ^ sz = 2 * 2 ^ (sz - 1) := by rw [← Nat.pow_succ']; congr 1; omega
  have hw1 : 2 ^ (sz - 1) = 2 * 2 ^ (sz - 2) := by rw [← Nat.pow_succ']; congr 1; omega
  have hk := p2_pos (sz - 2)
  have hK : 0 < M * 2 ^ E' := Nat.mul_pos hM (p2_pos _)
  obtain ⟨b1, b2⟩ := dv_le hK h1
  have hr2 : E * 2 ^ (sz - 1) + m = E' * 2 ^ (sz - 1) + q + u := by omega
  generalize hwv : 2 ^ (sz - 1) = w at *
  rcases hu with ⟨rfl, hup⟩ | ⟨rfl, hup⟩
  · rcases Nat.lt_or_ge (q + 1) (2 * w) with hq | hq
    · obtain ⟨rfl, rfl⟩ := cn_un (by omega) hc hq (fun z => by have := h3 z; omega) (hr2.trans (by omega) : E * w + m = E' * w + (q + 1))
      refine ⟨Or.inl ?_, Or.inr ⟨fun ⟨z1, z2⟩ => ?_, ?_⟩⟩
      · have e : (2 * (q + 1) + 1) * (M * 2 ^ E) = 2 * ((q + 1) * (M * 2 ^ E)) + M * 2 ^ E := by rw [Nat.add_mul, Nat.mul_assoc]; omega
        omega
      · have := h3 z2; omega
      · have e : 2 * (q + 1) - 1 = 2 * q + 1 := by omega
        rw [e]
        rcases hup with hup | ⟨hup, hf | hodd⟩
        · exact Or.inl hup
        · exact hf.elim
        · exact Or.inr ⟨hup, by omega⟩
    · have hq2 : q + 1 = 2 * w := by omega
      have e0 : E * w + m = (E' + 1) * w + w := by rw [Nat.add_mul]; omega
      obtain ⟨rfl, rfl⟩ := cn_un (by omega) hc (by omega) (fun _ => Nat.le_refl _) e0
      have e2 : M * 2 ^ (E' + 1) = 2 * (M * 2 ^ E') := by rw [Nat.pow_succ, ← Nat.mul_assoc]; omega
      unfold upP at hup
      generalize hKv : M * 2 ^ E' = K at *
      rw [inI, e2]
      refine ⟨Or.inl ?_, Or.inl ⟨hwv.symm, by omega, ?_⟩⟩
      · have e : (2 * m + 1) * (2 * K) = 2 * ((q + 1) * K) + 2 * K := by rw [hq2, Nat.add_mul, Nat.mul_assoc, Nat.mul_assoc, Nat.one_mul]; rw [Nat.mul_left_comm m 2 K]
        omega
      · have e : (4 * m - 1) * (2 * K) = 2 * ((2 * q + 1) * K) := by
          have : 4 * m - 1 = 2 * q + 1 := by omega
          rw [this, Nat.mul_left_comm]
        rcases hup with hup | ⟨hup, -⟩ <;> omega
  · obtain ⟨rfl, rfl⟩ := cn_un (by omega) hc (by omega) h3 (hr2.trans (by omega) : E * w + m = E' * w + q)
    have c1 : ¬ (2 * m + 1) * (M * 2 ^ E) < 2 * P := fun z => hup (Or.inl z)
    have e1 : (2 * m - 1) * (M * 2 ^ E) + (M * 2 ^ E) = 2 * (m * (M * 2 ^ E)) := by
      have a1 : (2 * m - 1) * (M * 2 ^ E) + (M * 2 ^ E) = (2 * m - 1 + 1) * (M * 2 ^ E) := by rw [Nat.add_mul, Nat.one_mul]
      have a2 : 2 * m - 1 + 1 = 2 * m := by omega
      rw [a1, a2, Nat.mul_assoc]
    refine ⟨?_, ?_⟩
    · by_cases c2 : (2 * m + 1) * (M * 2 ^ E) = 2 * P
      · exact Or.inr ⟨c2.symm, by
          have : ¬ m % 2 = 1 := fun z => hup (Or.inr ⟨c2, Or.inr z⟩)
          omega⟩
      · exact Or.inl (by omega)
    · by_cases c3 : m = 2 ^ (sz - 1) ∧ 0 < E
      · refine Or.inl ⟨c3.1, c3.2, ?_⟩
        have e4 : (4 * m - 1) * (M * 2 ^ E) ≤ 4 * m * (M * 2 ^ E) := Nat.mul_le_mul_right _ (by omega)
        rw [Nat.mul_assoc] at e4
        omega
      · exact Or.inr ⟨c3, Or.inl (by omega)⟩
theorem rb_to {sz inf P M r E m : Nat} (hs : 2 ≤ sz) (hM : 0 < M) (h : NR sz inf P M False r) (hm : 0 < m) (hm2 : m < 2 ^ sz) (hc : 0 < E → 2 ^ (sz - 1) ≤ m) (hinf : E * 2 ^ (sz - 1) + m < inf) (hI : inI sz P M E m) : r = E * 2 ^ (sz - 1) + m := by
  have hw : 2 ^ sz = 2 * 2 ^ (sz - 1) := by rw [← Nat.pow_succ']; congr 1; omega
  have hw1 : 2 ^ (sz - 1) = 2 * 2 ^ (sz - 2) := by rw [← Nat.pow_succ']; congr 1; omega
  have hk := p2_pos (sz - 2)
  have hK : 0 < M * 2 ^ E := Nat.mul_pos hM (p2_pos _)
  have key : ∀ {E' q u : Nat}, nr sz P M E' q → ((u = 1 ∧ upP P M E' q False) ∨ (u = 0 ∧ ¬ upP P M E' q False)) → E' * 2 ^ (sz - 1) + q + u = E * 2 ^ (sz - 1) + m → r = E * 2 ^ (sz - 1) + m := by
    intro E' q u a1 a2 a3
    refine NR_un (by omega) h ⟨E', q, u, a1, a2, ?_⟩
    omega
  obtain ⟨hi, lo⟩ := hI
  have e0 : (2 * m + 1) * (M * 2 ^ E) = 2 * (m * (M * 2 ^ E)) + M * 2 ^ E := by rw [Nat.add_mul, Nat.mul_assoc]; omega
  have e1 : (m + 1) * (M * 2 ^ E) = m * (M * 2 ^ E) + M * 2 ^ E := by rw [Nat.add_mul]; omega
  rcases Nat.lt_or_ge P (m * (M * 2 ^ E)) with hlt | hge
  · rcases lo with ⟨l1, l2, l3⟩ | ⟨l1, l2⟩
    · obtain ⟨E1, rfl⟩ : ∃ E1, E = E1 + 1 := ⟨E - 1, by omega⟩
      have e2 : M * 2 ^ (E1 + 1) = 2 * (M * 2 ^ E1) := by rw [Nat.pow_succ, ← Nat.mul_assoc]; omega
      have hK1 : 0 < M * 2 ^ E1 := Nat.mul_pos hM (p2_pos _)
      rw [e2] at hlt l3
      have a1 : (2 ^ sz - 1) * (M * 2 ^ E1) + M * 2 ^ E1 = m * (2 * (M * 2 ^ E1)) := by
        have : (2 ^ sz - 1) * (M * 2 ^ E1) + M * 2 ^ E1 = (2 ^ sz - 1 + 1) * (M * 2 ^ E1) := by rw [Nat.add_mul, Nat.one_mul]
        rw [this]
        have : 2 ^ sz - 1 + 1 = m * 2 := by omega
        rw [this, Nat.mul_assoc]
      have a2 : (4 * m - 1) * (2 * (M * 2 ^ E1)) = 2 * ((2 * (2 ^ sz - 1) + 1) * (M * 2 ^ E1)) := by
        have : 4 * m - 1 = 2 * (2 ^ sz - 1) + 1 := by omega
        rw [this, Nat.mul_left_comm]
      have a3 : (2 * (2 ^ sz - 1) + 1) * (M * 2 ^ E1) = 2 * ((2 ^ sz - 1) * (M * 2 ^ E1)) + M * 2 ^ E1 := by rw [Nat.add_mul, Nat.mul_assoc]; omega
      have a4 : (2 ^ sz - 1 + 1) * (M * 2 ^ E1) = (2 ^ sz - 1) * (M * 2 ^ E1) + M * 2 ^ E1 := by rw [Nat.add_mul]; omega
      refine key (E' := E1) (q := 2 ^ sz - 1) (u := 1) ⟨dv_eq (by omega) (by omega), by omega, fun _ => by omega⟩ (Or.inl ⟨rfl, ?_⟩) ?_
      · rcases Nat.lt_or_ge ((2 * (2 ^ sz - 1) + 1) * (M * 2 ^ E1)) (2 * P) with z | z
        · exact Or.inl z
        · exact Or.inr ⟨by omega, Or.inr (by omega)⟩
      · rw [Nat.add_mul]; omega
    · obtain ⟨k, rfl⟩ : ∃ k, m = k + 1 := ⟨m - 1, by omega⟩
      have e3 : 2 * (k + 1) - 1 = 2 * k + 1 := by omega
      rw [e3] at l2
      have e4 : (2 * k + 1) * (M * 2 ^ E) = 2 * (k * (M * 2 ^ E)) + M * 2 ^ E := by rw [Nat.add_mul, Nat.mul_assoc]; omega
      have e5 : (k + 1) * (M * 2 ^ E) = k * (M * 2 ^ E) + M * 2 ^ E := by rw [Nat.add_mul]; omega
      refine key (E' := E) (q := k) (u := 1) ⟨dv_eq (by omega) (by omega), by omega, fun z => by have := hc z; omega⟩ (Or.inl ⟨rfl, ?_⟩) (by omega)
      rcases l2 with z | ⟨z, z2⟩
      · exact Or.inl z
      · exact Or.inr ⟨z, Or.inr (by omega)⟩
  · refine key (E' := E) (q := m) (u := 0) ⟨dv_eq hge (by omega), hm2, hc⟩ (Or.inr ⟨rfl, ?_⟩) (by omega)
    rintro (z | ⟨z, z2 | z2⟩)
    · rcases hi with y | ⟨y, -⟩ <;> omega
    · exact z2
    · rcases hi with y | ⟨y, y2⟩ <;> omega
/-! where it is made: by a head and what lies below it -/
theorem dv_cross {a b c d : Nat} (hb : 0 < b) (hd : 0 < d) (h : a * d = c * b) : a / b = c / d := by
  have h1 : a / b = a * d / (b * d) := by rw [Nat.mul_div_mul_right _ _ hd]
  have h2 : c / d = c * b / (d * b) := by rw [Nat.mul_div_mul_right _ _ hb]
  rw [h1, h2, h, Nat.mul_comm b d]
theorem lt_cross {a b c d x : Nat} (hb : 0 < b) (hd : 0 < d) (h : a * d = c * b) : x * b < 2 * a ↔ x * d < 2 * c := by
  rw [← Nat.mul_lt_mul_right hd, ← Nat.mul_lt_mul_right (a := b) (b := x * d) hb]
  have e1 : x * b * d = x * d * b := Nat.mul_right_comm _ _ _
  have e2 : 2 * a * d = 2 * c * b := by rw [Nat.mul_assoc, h, Nat.mul_assoc]
  rw [e1, e2]
theorem eq_cross {a b c d x : Nat} (hb : 0 < b) (hd : 0 < d) (h : a * d = c * b) : x * b = 2 * a ↔ x * d = 2 * c := by
  have e1 : x * b * d = x * d * b := Nat.mul_right_comm _ _ _
  have e2 : 2 * a * d = 2 * c * b := by rw [Nat.mul_assoc, h, Nat.mul_assoc]
  constructor
  · intro z
    apply Nat.eq_of_mul_eq_mul_right hb
    rw [← e1, z, e2]
  · intro z
    apply Nat.eq_of_mul_eq_mul_right hd
    rw [e1, z, e2]
/-- the half of what was dropped, by the head alone and whether something lies below it -/
theorem hd_half {num t head rem q k half : Nat} (ht : 0 < t) (hn : num = head * t + rem) (hr : rem < t) (hk : k = 2 * half) (hq : q * k ≤ head) :
    ((2 * q + 1) * (t * k) < 2 * num ↔ (half < head - q * k ∨ (half = head - q * k ∧ 0 < rem))) ∧ ((2 * q + 1) * (t * k) = 2 * num ↔ (half = head - q * k ∧ rem = 0)) := by
  obtain ⟨dr, rfl⟩ : ∃ dr, head = q * k + dr := ⟨head - q * k, by omega⟩
  have e0 : q * k + dr - q * k = dr := by omega
  rw [e0]
  have e1 : (2 * q + 1) * (t * k) = 2 * (q * k * t) + 2 * (half * t) := by
    subst hk
    rw [Nat.add_mul, Nat.one_mul]
    have a1 : 2 * q * (t * (2 * half)) = 2 * (q * (2 * half) * t) := by
      rw [Nat.mul_assoc 2 q, Nat.mul_assoc q, Nat.mul_comm t]
    have a2 : t * (2 * half) = 2 * (half * t) := by rw [Nat.mul_left_comm, Nat.mul_comm t]
    omega
  have e2 : 2 * num = 2 * (q * k * t) + 2 * (dr * t) + 2 * rem := by
    rw [hn, Nat.add_mul]; omega
  rw [e1, e2]
  rcases Nat.lt_trichotomy half dr with h | h | h
  · have a : (half + 1) * t ≤ dr * t := Nat.mul_le_mul_right _ h
    rw [Nat.add_mul, Nat.one_mul] at a
    constructor
    · constructor
      · intro _; exact Or.inl h
      · intro _; omega
    · constructor
      · intro z; omega
      · intro ⟨z, _⟩; omega
  · subst h
    constructor
    · constructor
      · intro z; exact Or.inr ⟨rfl, by omega⟩
      · intro z; rcases z with z | ⟨_, z⟩ <;> omega
    · constructor
      · intro z; exact ⟨rfl, by omega⟩
      · intro ⟨_, z⟩; omega
  · have a : (dr + 1) * t ≤ half * t := Nat.mul_le_mul_right _ h
    rw [Nat.add_mul, Nat.one_mul] at a
    constructor
    · constructor
      · intro z; omega
      · intro z; rcases z with z | ⟨z, _⟩ <;> omega
    · constructor
      · intro z; omega
      · intro ⟨z, _⟩; omega
/-- there is always such an answer -/
theorem nr_ex (sz P M : Nat) (hs : 0 < sz) : ∃ E q, nr sz P M E q ∧ E = bl (P / M) - sz := by
  refine ⟨bl (P / M) - sz, P / M / 2 ^ (bl (P / M) - sz), ⟨by rw [Nat.div_div_eq_div_mul], ?_, fun h => ?_⟩, rfl⟩
  · rw [Nat.div_lt_iff_lt_mul (p2_pos _), ← Nat.pow_add]
    exact Nat.lt_of_lt_of_le (bl_lt _) (Nat.pow_le_pow_right (by decide) (by omega))
  · rw [Nat.le_div_iff_mul_le (p2_pos _), ← Nat.pow_add]
    have hp : 0 < P / M := by
      rcases Nat.eq_zero_or_pos (P / M) with z | z
      · rw [z, bl_0] at h; omega
      · exact z
    have := bl_le hp
    have e : sz - 1 + (bl (P / M) - sz) = bl (P / M) - 1 := by omega
    rw [e]; exact this
theorem NR_head {sz inf P M num t head rem drop E q u half : Nat} {b : Prop} (hM : 0 < M) (ht : 0 < t) (hn : num = head * t + rem) (hr : rem < t) (hx : P * (t * 2 ^ drop) = num * (M * 2 ^ E)) (hd : 2 ^ drop = 2 * half) (hq : q = head / 2 ^ drop)
    (h1 : q < 2 ^ sz) (h2 : 0 < E → 2 ^ (sz - 1) ≤ q)
    (hu : (u = 1 ∧ (half < head - q * 2 ^ drop ∨ (half = head - q * 2 ^ drop ∧ ((b ∨ 0 < rem) ∨ q % 2 = 1)))) ∨ (u = 0 ∧ ¬ (half < head - q * 2 ^ drop ∨ (half = head - q * 2 ^ drop ∧ ((b ∨ 0 < rem) ∨ q % 2 = 1))))) :
    NR sz inf P M b (min inf (E * 2 ^ (sz - 1) + q + u)) := by
  have hB : 0 < M * 2 ^ E := Nat.mul_pos hM (p2_pos _)
  have hT : 0 < t * 2 ^ drop := Nat.mul_pos ht (p2_pos _)
  have hle : q * 2 ^ drop ≤ head := by rw [hq]; exact Nat.div_mul_le_self _ _
  obtain ⟨f1, f2⟩ := hd_half ht hn hr hd hle
  have c1 := lt_cross (x := 2 * q + 1) hB hT hx
  have c2 := eq_cross (x := 2 * q + 1) hB hT hx
  refine ⟨E, q, u, ⟨?_, h1, h2⟩, ?_, rfl⟩
  · have e1 : num / t = head := by rw [hn, Nat.mul_comm head, Nat.mul_add_div ht, Nat.div_eq_of_lt hr, Nat.add_zero]
    rw [dv_cross hB hT hx, ← Nat.div_div_eq_div_mul, e1]
    exact hq
  · rcases hu with ⟨rfl, hu⟩ | ⟨rfl, hu⟩
    · refine Or.inl ⟨rfl, ?_⟩
      unfold upP
      rw [c1, c2, f1, f2]
      rcases hu with z | ⟨z, (zb | zr) | zo⟩
      · exact Or.inl (Or.inl z)
      · rcases Nat.eq_zero_or_pos rem with y | y
        · exact Or.inr ⟨⟨z, y⟩, Or.inl zb⟩
        · exact Or.inl (Or.inr ⟨z, y⟩)
      · exact Or.inl (Or.inr ⟨z, zr⟩)
      · rcases Nat.eq_zero_or_pos rem with y | y
        · exact Or.inr ⟨⟨z, y⟩, Or.inr zo⟩
        · exact Or.inl (Or.inr ⟨z, y⟩)
    · refine Or.inr ⟨rfl, fun z => hu ?_⟩
      unfold upP at z
      rw [c1, c2, f1, f2] at z
      rcases z with (z | ⟨z, y⟩) | ⟨⟨z, y⟩, w⟩
      · exact Or.inl z
      · exact Or.inr ⟨z, Or.inl (Or.inr y)⟩
      · rcases w with w | w
        · exact Or.inr ⟨z, Or.inl (Or.inl w)⟩
        · exact Or.inr ⟨z, Or.inr w⟩
theorem NR_small {sz inf P M : Nat} {b : Prop} (h : 2 * P < M) : NR sz inf P M b 0 := by
  refine ⟨0, 0, 0, ⟨?_, p2_pos _, fun z => by omega⟩, Or.inr ⟨rfl, ?_⟩, by simp⟩
  · rw [Nat.pow_zero, Nat.mul_one, Nat.div_eq_of_lt (by omega)]
  · unfold upP
    rw [Nat.pow_zero, Nat.mul_one]
    rintro (z | ⟨z, -⟩) <;> omega
theorem NR_large {sz inf P M j : Nat} {b : Prop} (hs : 0 < sz) (hj : 0 < j) (h : inf = (j + 1) * 2 ^ (sz - 1)) (hb : sz + j ≤ bl (P / M)) : NR sz inf P M b inf := by
  obtain ⟨E, q, h1, h2⟩ := nr_ex sz P M hs
  have h3 : j ≤ E := by omega
  have h4 := h1.2.2 (by omega)
  have h5 : j * 2 ^ (sz - 1) ≤ E * 2 ^ (sz - 1) := Nat.mul_le_mul_right _ h3
  rw [Nat.add_mul] at h
  by_cases hu : upP P M E q b
  · exact ⟨E, q, 1, h1, Or.inl ⟨rfl, hu⟩, by omega⟩
  · exact ⟨E, q, 0, h1, Or.inr ⟨rfl, hu⟩, by omega⟩
end
section
/-! Contracts of this proof: av the arguments, ws the cells, Ex what else is known of the start; the post speaks of the answer and of the cells behind -/
def c_P (Ex : (Nat → Prop) → State → Prop) (D : va_G) (cl : List vw_C) (tys : List (ClassId × FieldType)) (av : List Value) (ws : va_W) (sz : Nat) : Array Value → State → Prop :=
  va_Pc av (fun U => U.heap.size = sz ∧ va_P D cl ws U.heap ∧ va_K D cl tys U ∧ va_D (fun _ => True) ws ∧ Ex (va_A ws sz) U)
def c_B (D : va_G) (cl : List vw_C) (A : Nat → Prop) (u : va_W) (t : State) : Prop := va_P D cl u t.heap ∧ va_D A u
/-- what Ex must stand: another state with the same heap and tables alike; fewer cells that may change -/
def c_X (Ex : (Nat → Prop) → State → Prop) : Prop := ∀ (A B : Nat → Prop) (u U : State), u.WarmedH U.vm → (∀ a : Nat, a < u.heap.size → ¬ A a → U.heap[a]? = u.heap[a]?) → (∀ q, B q → A q) → Ex A u → Ex B U
def c_I (l : Launch) (y : MethodName) (wd : List Cond) (rm : Room) (Ex : (Nat → Prop) → State → Prop) (D : va_G) (cl : List vw_C) (tys : List (ClassId × FieldType)) (av : List Value) (ws : va_W) (post : Int32 → va_W → Prop) (mc ms : Nat) : Prop :=
  ∀ sz : Nat, Met l y wd rm (c_P Ex D cl tys av ws sz) (va_Qi post (c_B D cl (va_A ws sz)) (va_A ws sz)) mc ms (va_A ws sz)
def c_L (l : Launch) (y : MethodName) (wd : List Cond) (rm : Room) (Ex : (Nat → Prop) → State → Prop) (D : va_G) (cl : List vw_C) (tys : List (ClassId × FieldType)) (av : List Value) (ws : va_W) (post : Int64 → va_W → Prop) (mc ms : Nat) : Prop :=
  ∀ sz : Nat, Met l y wd rm (c_P Ex D cl tys av ws sz) (va_Ql post (c_B D cl (va_A ws sz)) (va_A ws sz)) mc ms (va_A ws sz)
def c_V (l : Launch) (y : MethodName) (wd : List Cond) (rm : Room) (Ex : (Nat → Prop) → State → Prop) (D : va_G) (cl : List vw_C) (tys : List (ClassId × FieldType)) (av : List Value) (ws : va_W) (post : va_W → Prop) (mc ms : Nat) : Prop :=
  ∀ sz : Nat, Met l y wd rm (c_P Ex D cl tys av ws sz) (va_Qv post (c_B D cl (va_A ws sz)) (va_A ws sz)) mc ms (va_A ws sz)
section EdCalls
variable {p : Program} {l : Launch} {e : Env} {R : Room} {s : State} {m : MethodId} {args : Array Value} {below : List Frame} {meth : Method} {c : Code} {H : Heap} {locs : List Loc} {cells slots : Nat} {Q : State → Prop} {cc bytes : ByteArray} {pc : Nat} {ls : Array Slot} {rest st0 As : List Value} {a : Array Value} {A0 : Nat → Prop} {H0 : Heap} {mc ms n nL maxL index : Nat} {D : va_G} {cl : List vw_C} {tys : List (ClassId × FieldType)} {ws wc wr : va_W} {Ex : (Nat → Prop) → State → Prop} {y : MethodName} {wd Ts : List Cond} {rm : Room} {own C host : String} {b : Nat} {ret : Option FieldType}
theorem c_blind {av : List Value} {sz : Nat} (hX : c_X Ex) : FrameBlind (c_P Ex D cl tys av ws sz) := fun a U g mk h => by
  obtain ⟨h0, h1, h2, h3, h4, h5⟩ := h
  exact ⟨h0, h1, h2, va_K.moved (u := U) (U := U.calling g mk a) (Vm.Alike.refl U.vm) h3, h4, hX _ _ U (U.calling g mk a) (State.WarmedH.refl U) (fun _ _ _ => rfl) (fun _ h => h) h5⟩
/-- the callee's start, out of the caller's world -/
theorem c_pre {av : List Value} (hX : c_X Ex) (hE : Ex A0 s) (hK : va_K D cl tys s) (hP : va_P D cl ws H) (hD : va_D A0 ws) (hS : va_S A0 s.heap H locs) (hA : ∀ q, s.heap.size ≤ q → A0 q)
    (isC : List Nat) (hC : isC.map (fun i => ws[i]?) = wc.map some) (hn1 : va_nd isC = true) (U : State) (hU : U.heap = H) (hW : s.WarmedH U.vm) : c_P Ex D cl tys av wc H.size av.toArray U := by
  have hF := va_free (wc := wc) hD hS hA isC hC
  refine ⟨rfl, by rw [hU], ?_, va_K.moved hW.alike hK, (hD.sub isC hn1 hC).weaken (fun _ _ _ _ => trivial), hX A0 _ s U hW (fun a h1 h2 => by rw [hU]; exact hS.2.1 a h1 h2) hF hE⟩
  rw [hU]
  intro k q hq
  have h1 : (isC.map (fun i => ws[i]?))[k]? = some (some q) := by rw [hC, List.getElem?_map, hq]; rfl
  rw [List.getElem?_map] at h1
  cases hk : isC[k]? with
  | none => rw [hk] at h1; cases h1
  | some i => rw [hk] at h1; exact hP i q (Option.some.inj h1)
theorem c_fi {post : Int32 → va_W → Prop} (hr : va_Run p l e R s m args below meth c H locs cells slots mc ms (F0 m pc ls st0) rest (va_Qi post (c_B D cl (va_A wc H.size)) (va_A wc H.size) a) (va_A wc H.size))
    (hP : va_P D cl ws H) (hD : va_D A0 ws) (hS : va_S A0 H0 H locs) (hA : ∀ q, H0.size ≤ q → A0 q) (isC isR : List Nat) (hC : isC.map (fun i => ws[i]?) = wc.map some) (hR : isR.map (fun i => ws[i]?) = wr.map some) (hn2 : va_nd isR = true) (hdis : ∀ i ∈ isR, i ∉ isC)
    (kk : ∀ (r : Int32) (u : va_W) (H1 : Heap) (locs1 : List Loc), post r u → va_P D cl (wr ++ u) H1 → va_D A0 (wr ++ u) → va_S A0 H0 H1 locs1 → W p l e R s m args below meth c H1 locs1 (cells + mc) (slots + ms) Q (F0 m (pc + 3) ls (.int r :: rest))) : W p l e R s m args below meth c H locs cells slots Q (F0 m pc ls st0) := by
  have hF := va_free (wc := wc) hD hS hA isC hC
  refine va_calli hr hS (fun q _ h => hF q h) hF (fun r u t H1 locs1 ht hvm hp hB hz hk hS1 => ?_)
  obtain ⟨hP1, hD1⟩ := hB
  rw [ht] at hP1
  obtain ⟨hP2, hD2⟩ := va_join hP hD isC isR hC hR hn2 hdis hk hF hP1 hD1
  exact kk r u H1 locs1 hp hP2 hD2 hS1
theorem c_fl {post : Int64 → va_W → Prop} (hr : va_Run p l e R s m args below meth c H locs cells slots mc ms (F0 m pc ls st0) rest (va_Ql post (c_B D cl (va_A wc H.size)) (va_A wc H.size) a) (va_A wc H.size))
    (hP : va_P D cl ws H) (hD : va_D A0 ws) (hS : va_S A0 H0 H locs) (hA : ∀ q, H0.size ≤ q → A0 q) (isC isR : List Nat) (hC : isC.map (fun i => ws[i]?) = wc.map some) (hR : isR.map (fun i => ws[i]?) = wr.map some) (hn2 : va_nd isR = true) (hdis : ∀ i ∈ isR, i ∉ isC)
    (kk : ∀ (r : Int64) (u : va_W) (H1 : Heap) (locs1 : List Loc), post r u → va_P D cl (wr ++ u) H1 → va_D A0 (wr ++ u) → va_S A0 H0 H1 locs1 → W p l e R s m args below meth c H1 locs1 (cells + mc) (slots + ms) Q (F0 m (pc + 3) ls (.long r :: rest))) : W p l e R s m args below meth c H locs cells slots Q (F0 m pc ls st0) := by
  have hF := va_free (wc := wc) hD hS hA isC hC
  refine va_calll hr hS (fun q _ h => hF q h) hF (fun r u t H1 locs1 ht hvm hp hB hz hk hS1 => ?_)
  obtain ⟨hP1, hD1⟩ := hB
  rw [ht] at hP1
  obtain ⟨hP2, hD2⟩ := va_join hP hD isC isR hC hR hn2 hdis hk hF hP1 hD1
  exact kk r u H1 locs1 hp hP2 hD2 hS1
theorem c_fv {post : va_W → Prop} (hr : va_Run p l e R s m args below meth c H locs cells slots mc ms (F0 m pc ls st0) rest (va_Qv post (c_B D cl (va_A wc H.size)) (va_A wc H.size) a) (va_A wc H.size))
    (hP : va_P D cl ws H) (hD : va_D A0 ws) (hS : va_S A0 H0 H locs) (hA : ∀ q, H0.size ≤ q → A0 q) (isC isR : List Nat) (hC : isC.map (fun i => ws[i]?) = wc.map some) (hR : isR.map (fun i => ws[i]?) = wr.map some) (hn2 : va_nd isR = true) (hdis : ∀ i ∈ isR, i ∉ isC)
    (kk : ∀ (u : va_W) (H1 : Heap) (locs1 : List Loc), post u → va_P D cl (wr ++ u) H1 → va_D A0 (wr ++ u) → va_S A0 H0 H1 locs1 → W p l e R s m args below meth c H1 locs1 (cells + mc) (slots + ms) Q (F0 m (pc + 3) ls rest)) : W p l e R s m args below meth c H locs cells slots Q (F0 m pc ls st0) := by
  have hF := va_free (wc := wc) hD hS hA isC hC
  refine va_callv hr hS (fun q _ h => hF q h) hF (fun u t H1 locs1 ht hvm hp hB hz hk hS1 => ?_)
  obtain ⟨hP1, hD1⟩ := hB
  rw [ht] at hP1
  obtain ⟨hP2, hD2⟩ := va_join hP hD isC isR hC hR hn2 hdis hk hF hP1 hD1
  exact kk u H1 locs1 hp hP2 hD2 hS1
end EdCalls
end
section
-- ===== PART A: goes FIRST, ahead of the names: the tables' words, and 'selects' of the private methods out of them =====
/-- a private method of a class that the tables say can be made, by its rows of tables_1 -/
def lw_okq (q : MethodName × Nat) : Prop := (q.1.cls ≠ "java/lang/invoke/MethodHandle" ∧ q.1.cls ≠ "java/lang/invoke/VarHandle") ∧ Cond.instantiable q.1.cls q.2 ∈ tables_1 ∧ Cond.privateMethod q.1 ∈ tables_1 ∧ Cond.instanceMethod q.1 ∈ tables_1
theorem lw_p0 : lw_okq (⟨"ExactDigits", "giveScratch", "(I)V"⟩, 5) := ⟨⟨by decide +kernel, by decide +kernel⟩, List.mem_of_getElem? (i := 18) (by decide +kernel), List.mem_of_getElem? (i := 67) (by decide +kernel), List.mem_of_getElem? (i := 68) (by decide +kernel)⟩
theorem lw_p1 : lw_okq (⟨"ExactDigits", "dropZerosBehind", "()V"⟩, 5) := ⟨⟨by decide +kernel, by decide +kernel⟩, List.mem_of_getElem? (i := 18) (by decide +kernel), List.mem_of_getElem? (i := 88) (by decide +kernel), List.mem_of_getElem? (i := 89) (by decide +kernel)⟩
theorem lw_p2 : lw_okq (⟨"ExactDigits", "nearestToScratch", "(IZLExactDigits$Format;)J"⟩, 5) := ⟨⟨by decide +kernel, by decide +kernel⟩, List.mem_of_getElem? (i := 18) (by decide +kernel), List.mem_of_getElem? (i := 111) (by decide +kernel), List.mem_of_getElem? (i := 112) (by decide +kernel)⟩
theorem lw_p3 : lw_okq (⟨"ExactDigits$Natural", "times", "(I)V"⟩, 2) := ⟨⟨by decide +kernel, by decide +kernel⟩, List.mem_of_getElem? (i := 26) (by decide +kernel), List.mem_of_getElem? (i := 123) (by decide +kernel), List.mem_of_getElem? (i := 124) (by decide +kernel)⟩
theorem lw_p4 : lw_okq (⟨"ExactDigits$Natural", "digitAt", "(I)I"⟩, 2) := ⟨⟨by decide +kernel, by decide +kernel⟩, List.mem_of_getElem? (i := 26) (by decide +kernel), List.mem_of_getElem? (i := 134) (by decide +kernel), List.mem_of_getElem? (i := 135) (by decide +kernel)⟩
theorem lw_p5 : lw_okq (⟨"java/lang/Throwable", "fillInStackTrace", "(I)Ljava/lang/Throwable;"⟩, 6) := ⟨⟨by decide +kernel, by decide +kernel⟩, List.mem_of_getElem? (i := 208) (by decide +kernel), List.mem_of_getElem? (i := 206) (by decide +kernel), List.mem_of_getElem? (i := 207) (by decide +kernel)⟩
theorem lw_p6 : lw_okq (⟨"ExactDigits", "giveExact", "(JLExactDigits$Format;)V"⟩, 5) := ⟨⟨by decide +kernel, by decide +kernel⟩, List.mem_of_getElem? (i := 18) (by decide +kernel), List.mem_of_getElem? (i := 233) (by decide +kernel), List.mem_of_getElem? (i := 234) (by decide +kernel)⟩
theorem lw_p7 : lw_okq (⟨"ExactDigits", "shorten", "(JLExactDigits$Format;)V"⟩, 5) := ⟨⟨by decide +kernel, by decide +kernel⟩, List.mem_of_getElem? (i := 18) (by decide +kernel), List.mem_of_getElem? (i := 252) (by decide +kernel), List.mem_of_getElem? (i := 253) (by decide +kernel)⟩
theorem lw_p8 : lw_okq (⟨"ExactDigits", "neighbourReadBack", "(IJLExactDigits$Format;)J"⟩, 5) := ⟨⟨by decide +kernel, by decide +kernel⟩, List.mem_of_getElem? (i := 18) (by decide +kernel), List.mem_of_getElem? (i := 256) (by decide +kernel), List.mem_of_getElem? (i := 257) (by decide +kernel)⟩
theorem lw_p9 : lw_okq (⟨"ExactDigits", "firstDigits", "(I)J"⟩, 5) := ⟨⟨by decide +kernel, by decide +kernel⟩, List.mem_of_getElem? (i := 18) (by decide +kernel), List.mem_of_getElem? (i := 260) (by decide +kernel), List.mem_of_getElem? (i := 261) (by decide +kernel)⟩
theorem lw_p10 : lw_okq (⟨"ExactDigits", "isNearerAbove", "(IJ)Z"⟩, 5) := ⟨⟨by decide +kernel, by decide +kernel⟩, List.mem_of_getElem? (i := 18) (by decide +kernel), List.mem_of_getElem? (i := 265) (by decide +kernel), List.mem_of_getElem? (i := 266) (by decide +kernel)⟩
theorem lw_p11 : lw_okq (⟨"ExactDigits", "readsBack", "(JIJLExactDigits$Format;)Z"⟩, 5) := ⟨⟨by decide +kernel, by decide +kernel⟩, List.mem_of_getElem? (i := 18) (by decide +kernel), List.mem_of_getElem? (i := 269) (by decide +kernel), List.mem_of_getElem? (i := 270) (by decide +kernel)⟩
theorem lw_p12 : lw_okq (⟨"ExactDigits", "append", "(III)V"⟩, 5) := ⟨⟨by decide +kernel, by decide +kernel⟩, List.mem_of_getElem? (i := 18) (by decide +kernel), List.mem_of_getElem? (i := 300) (by decide +kernel), List.mem_of_getElem? (i := 301) (by decide +kernel)⟩
theorem lw_p13 : lw_okq (⟨"ExactDigits", "keepFirstAndOneMore", "(I)V"⟩, 5) := ⟨⟨by decide +kernel, by decide +kernel⟩, List.mem_of_getElem? (i := 18) (by decide +kernel), List.mem_of_getElem? (i := 325) (by decide +kernel), List.mem_of_getElem? (i := 326) (by decide +kernel)⟩
theorem lw_p14 : lw_okq (⟨"ExactDigits", "keepFirst", "(I)V"⟩, 5) := ⟨⟨by decide +kernel, by decide +kernel⟩, List.mem_of_getElem? (i := 18) (by decide +kernel), List.mem_of_getElem? (i := 329) (by decide +kernel), List.mem_of_getElem? (i := 330) (by decide +kernel)⟩
theorem lw_p15 : lw_okq (⟨"ExactDigitsModel", "isNumber", "(JZ)Z"⟩, 10) := ⟨⟨by decide +kernel, by decide +kernel⟩, List.mem_of_getElem? (i := 348) (by decide +kernel), List.mem_of_getElem? (i := 450) (by decide +kernel), List.mem_of_getElem? (i := 451) (by decide +kernel)⟩
def lw_privs_1 : List (MethodName × Nat) := [(⟨"ExactDigits", "giveScratch", "(I)V"⟩, 5), (⟨"ExactDigits", "dropZerosBehind", "()V"⟩, 5), (⟨"ExactDigits", "nearestToScratch", "(IZLExactDigits$Format;)J"⟩, 5), (⟨"ExactDigits$Natural", "times", "(I)V"⟩, 2), (⟨"ExactDigits$Natural", "digitAt", "(I)I"⟩, 2), (⟨"java/lang/Throwable", "fillInStackTrace", "(I)Ljava/lang/Throwable;"⟩, 6), (⟨"ExactDigits", "giveExact", "(JLExactDigits$Format;)V"⟩, 5), (⟨"ExactDigits", "shorten", "(JLExactDigits$Format;)V"⟩, 5), (⟨"ExactDigits", "neighbourReadBack", "(IJLExactDigits$Format;)J"⟩, 5), (⟨"ExactDigits", "firstDigits", "(I)J"⟩, 5), (⟨"ExactDigits", "isNearerAbove", "(IJ)Z"⟩, 5), (⟨"ExactDigits", "readsBack", "(JIJLExactDigits$Format;)Z"⟩, 5), (⟨"ExactDigits", "append", "(III)V"⟩, 5), (⟨"ExactDigits", "keepFirstAndOneMore", "(I)V"⟩, 5), (⟨"ExactDigits", "keepFirst", "(I)V"⟩, 5), (⟨"ExactDigitsModel", "isNumber", "(JZ)Z"⟩, 10)]
theorem lw_r1 : ∀ q ∈ lw_privs_1, lw_okq q := List.forall_mem_cons.mpr ⟨lw_p0, List.forall_mem_cons.mpr ⟨lw_p1, List.forall_mem_cons.mpr ⟨lw_p2, List.forall_mem_cons.mpr ⟨lw_p3, List.forall_mem_cons.mpr ⟨lw_p4, List.forall_mem_cons.mpr ⟨lw_p5, List.forall_mem_cons.mpr ⟨lw_p6, List.forall_mem_cons.mpr ⟨lw_p7, List.forall_mem_cons.mpr ⟨lw_p8, List.forall_mem_cons.mpr ⟨lw_p9, List.forall_mem_cons.mpr ⟨lw_p10, List.forall_mem_cons.mpr ⟨lw_p11, List.forall_mem_cons.mpr ⟨lw_p12, List.forall_mem_cons.mpr ⟨lw_p13, List.forall_mem_cons.mpr ⟨lw_p14, List.forall_mem_cons.mpr ⟨lw_p15, fun _ h => absurd h List.not_mem_nil⟩⟩⟩⟩⟩⟩⟩⟩⟩⟩⟩⟩⟩⟩⟩⟩
theorem lw_p16 : lw_okq (⟨"ExactDigitsModel", "first", "(IZ)V"⟩, 10) := ⟨⟨by decide +kernel, by decide +kernel⟩, List.mem_of_getElem? (i := 348) (by decide +kernel), List.mem_of_getElem? (i := 473) (by decide +kernel), List.mem_of_getElem? (i := 474) (by decide +kernel)⟩
theorem lw_p17 : lw_okq (⟨"ExactDigitsModel", "isIn", "(Z)Z"⟩, 10) := ⟨⟨by decide +kernel, by decide +kernel⟩, List.mem_of_getElem? (i := 348) (by decide +kernel), List.mem_of_getElem? (i := 482) (by decide +kernel), List.mem_of_getElem? (i := 483) (by decide +kernel)⟩
theorem lw_p18 : lw_okq (⟨"ExactDigitsModel", "kept", "()I"⟩, 10) := ⟨⟨by decide +kernel, by decide +kernel⟩, List.mem_of_getElem? (i := 348) (by decide +kernel), List.mem_of_getElem? (i := 504) (by decide +kernel), List.mem_of_getElem? (i := 505) (by decide +kernel)⟩
theorem lw_p19 : lw_okq (⟨"ExactDigitsModel", "ended", "(IZ)I"⟩, 10) := ⟨⟨by decide +kernel, by decide +kernel⟩, List.mem_of_getElem? (i := 348) (by decide +kernel), List.mem_of_getElem? (i := 516) (by decide +kernel), List.mem_of_getElem? (i := 517) (by decide +kernel)⟩
theorem lw_p20 : lw_okq (⟨"ExactDigitsModel", "bits", "()I"⟩, 10) := ⟨⟨by decide +kernel, by decide +kernel⟩, List.mem_of_getElem? (i := 348) (by decide +kernel), List.mem_of_getElem? (i := 548) (by decide +kernel), List.mem_of_getElem? (i := 549) (by decide +kernel)⟩
theorem lw_p21 : lw_okq (⟨"ExactDigitsModel", "ones", "()J"⟩, 10) := ⟨⟨by decide +kernel, by decide +kernel⟩, List.mem_of_getElem? (i := 348) (by decide +kernel), List.mem_of_getElem? (i := 552) (by decide +kernel), List.mem_of_getElem? (i := 553) (by decide +kernel)⟩
def lw_privs_2 : List (MethodName × Nat) := [(⟨"ExactDigitsModel", "first", "(IZ)V"⟩, 10), (⟨"ExactDigitsModel", "isIn", "(Z)Z"⟩, 10), (⟨"ExactDigitsModel", "kept", "()I"⟩, 10), (⟨"ExactDigitsModel", "ended", "(IZ)I"⟩, 10), (⟨"ExactDigitsModel", "bits", "()I"⟩, 10), (⟨"ExactDigitsModel", "ones", "()J"⟩, 10)]
theorem lw_r2 : ∀ q ∈ lw_privs_2, lw_okq q := List.forall_mem_cons.mpr ⟨lw_p16, List.forall_mem_cons.mpr ⟨lw_p17, List.forall_mem_cons.mpr ⟨lw_p18, List.forall_mem_cons.mpr ⟨lw_p19, List.forall_mem_cons.mpr ⟨lw_p20, List.forall_mem_cons.mpr ⟨lw_p21, fun _ h => absurd h List.not_mem_nil⟩⟩⟩⟩⟩⟩
def lw_privs : List (MethodName × Nat) := lw_privs_1 ++ (lw_privs_2)
def lw_tbl : List Cond := k2_sels lw_privs ++ tables_1
theorem lw_privs_ok : ∀ q ∈ lw_privs, lw_okq q := by
  show ∀ q ∈ lw_privs_1 ++ (lw_privs_2), lw_okq q
  exact List.forall_mem_append.mpr ⟨lw_r1, lw_r2⟩
end
section
/-! names: classes, fields, code, words of the tables; by program (wip/whole/gen.py) -/
def R_Fo : String := "ExactDigits$Format"
def R_Na : String := "ExactDigits$Natural"
def R_Ed : String := "ExactDigits"
def R_De : String := "ExactDigitsModel$Decimal"
def R_Ro : String := "ExactDigitsModel$Row"
def R_Mo : String := "ExactDigitsModel"
def R_La : String := "ExactDigitsLaw"
def R_Ma : String := "java/lang/Math"
def R_In : String := "java/lang/Integer"
def R_Lo : String := "java/lang/Long"
def R_Sy : String := "java/lang/System"
def R_Ob : String := "java/lang/Object"
def R_Th : String := "java/lang/Throwable"
def R_En : String := "java/lang/Enum"
def R_Re : String := "java/lang/RuntimeException"
def R_Ex : String := "java/lang/Exception"
def R_Ae : String := "java/lang/ArithmeticException"
def R_Ia : String := "java/lang/IllegalArgumentException"
def T_Na : u_T := fun k => match k with
  | 0 => ("ExactDigits$Natural", "parts", "[I", true)
  | _ => ("ExactDigits$Natural", "size", "I", false)
def y_Na : Nat → FieldType := fun k => match k with
  | 0 => .array .int
  | _ => .int
theorem n_Na : ∀ a, a < 2 → ∀ b, b < 2 → a ≠ b → (T_Na a).2.1 ≠ (T_Na b).2.1 := by decide +kernel
theorem t_Na : ∀ k, k < 2 → parseFieldDescriptor (T_Na k).2.2.1 = some (y_Na k) := by decide +kernel
def T_Ed : u_T := fun k => match k with
  | 0 => ("ExactDigits", "digits", "[B", true)
  | 1 => ("ExactDigits", "count", "I", false)
  | 2 => ("ExactDigits", "point", "I", false)
  | 3 => ("ExactDigits", "less", "Z", false)
  | _ => ("ExactDigits", "scratch", "LExactDigits$Natural;", true)
def y_Ed : Nat → FieldType := fun k => match k with
  | 0 => .array .byte
  | 1 => .int
  | 2 => .int
  | 3 => .boolean
  | _ => .object "ExactDigits$Natural"
theorem n_Ed : ∀ a, a < 5 → ∀ b, b < 5 → a ≠ b → (T_Ed a).2.1 ≠ (T_Ed b).2.1 := by decide +kernel
theorem t_Ed : ∀ k, k < 5 → parseFieldDescriptor (T_Ed k).2.2.1 = some (y_Ed k) := by decide +kernel
def T_De : u_T := fun k => match k with
  | 0 => ("ExactDigitsModel$Decimal", "w", "[I", true)
  | 1 => ("ExactDigitsModel$Decimal", "from", "I", false)
  | _ => ("ExactDigitsModel$Decimal", "to", "I", false)
def y_De : Nat → FieldType := fun k => match k with
  | 0 => .array .int
  | 1 => .int
  | _ => .int
theorem n_De : ∀ a, a < 3 → ∀ b, b < 3 → a ≠ b → (T_De a).2.1 ≠ (T_De b).2.1 := by decide +kernel
theorem t_De : ∀ k, k < 3 → parseFieldDescriptor (T_De k).2.2.1 = some (y_De k) := by decide +kernel
def T_Ro : u_T := fun k => match k with
  | 0 => ("ExactDigitsModel$Row", "d", "[B", true)
  | 1 => ("ExactDigitsModel$Row", "n", "I", false)
  | _ => ("ExactDigitsModel$Row", "point", "I", false)
def y_Ro : Nat → FieldType := fun k => match k with
  | 0 => .array .byte
  | 1 => .int
  | _ => .int
theorem n_Ro : ∀ a, a < 3 → ∀ b, b < 3 → a ≠ b → (T_Ro a).2.1 ≠ (T_Ro b).2.1 := by decide +kernel
theorem t_Ro : ∀ k, k < 3 → parseFieldDescriptor (T_Ro k).2.2.1 = some (y_Ro k) := by decide +kernel
def T_Mo : u_T := fun k => match k with
  | 0 => ("ExactDigitsModel", "number", "LExactDigitsModel$Row;", true)
  | 1 => ("ExactDigitsModel", "under", "LExactDigitsModel$Row;", true)
  | 2 => ("ExactDigitsModel", "over", "LExactDigitsModel$Row;", true)
  | 3 => ("ExactDigitsModel", "exact", "LExactDigitsModel$Row;", true)
  | 4 => ("ExactDigitsModel", "decimal", "LExactDigitsModel$Decimal;", true)
  | 5 => ("ExactDigitsModel", "isLess", "Z", false)
  | 6 => ("ExactDigitsModel", "thrown", "I", false)
  | 7 => ("ExactDigitsModel", "mantissa", "J", false)
  | 8 => ("ExactDigitsModel", "power", "I", false)
  | _ => ("ExactDigitsModel", "isCloser", "Z", false)
def y_Mo : Nat → FieldType := fun k => match k with
  | 0 => .object "ExactDigitsModel$Row"
  | 1 => .object "ExactDigitsModel$Row"
  | 2 => .object "ExactDigitsModel$Row"
  | 3 => .object "ExactDigitsModel$Row"
  | 4 => .object "ExactDigitsModel$Decimal"
  | 5 => .boolean
  | 6 => .int
  | 7 => .long
  | 8 => .int
  | _ => .boolean
theorem n_Mo : ∀ a, a < 10 → ∀ b, b < 10 → a ≠ b → (T_Mo a).2.1 ≠ (T_Mo b).2.1 := by decide +kernel
theorem t_Mo : ∀ k, k < 10 → parseFieldDescriptor (T_Mo k).2.2.1 = some (y_Mo k) := by decide +kernel
/-- the classes whose objects the worlds hold: 0 Natural, 1 ExactDigits, 2 Decimal, 3 Row, 4 Model -/
abbrev ecl : List vw_C := [(R_Na, T_Na, 2), (R_Ed, T_Ed, 5), (R_De, T_De, 3), (R_Ro, T_Ro, 3), (R_Mo, T_Mo, 10)]
abbrev b_Ed_init : ByteArray := prog_1_method_1_code
def m_Ed_init : MethodName := ⟨R_Ed, "<init>", "()V"⟩
abbrev b_Ob_init : ByteArray := object_method_1_code
def m_Ob_init : MethodName := ⟨R_Ob, "<init>", "()V"⟩
abbrev b_Na_init : ByteArray := prog_3_method_1_code
def m_Na_init : MethodName := ⟨R_Na, "<init>", "()V"⟩
abbrev b_Ed_whole : ByteArray := prog_1_method_2_code
def m_Ed_whole : MethodName := ⟨R_Ed, "whole", "(J)I"⟩
abbrev b_Na_setUnsigned : ByteArray := prog_3_method_2_code
def m_Na_setUnsigned : MethodName := ⟨R_Na, "setUnsigned", "(J)V"⟩
abbrev b_Ed_giveScratch : ByteArray := prog_1_method_17_code
def m_Ed_giveScratch : MethodName := ⟨R_Ed, "giveScratch", "(I)V"⟩
abbrev b_Na_length : ByteArray := prog_3_method_6_code
def m_Na_length : MethodName := ⟨R_Na, "length", "()I"⟩
abbrev b_Na_copyDigits : ByteArray := prog_3_method_7_code
def m_Na_copyDigits : MethodName := ⟨R_Na, "copyDigits", "([B)Z"⟩
abbrev b_Na_hasDigitBelow : ByteArray := prog_3_method_10_code
def m_Na_hasDigitBelow : MethodName := ⟨R_Na, "hasDigitBelow", "(I)Z"⟩
abbrev b_Ma_min : ByteArray := prog_14_method_69_code
def m_Ma_min : MethodName := ⟨R_Ma, "min", "(II)I"⟩
abbrev b_Ed_dropZerosBehind : ByteArray := prog_1_method_19_code
def m_Ed_dropZerosBehind : MethodName := ⟨R_Ed, "dropZerosBehind", "()V"⟩
abbrev b_Ed_digit : ByteArray := prog_1_method_10_code
def m_Ed_digit : MethodName := ⟨R_Ed, "digit", "(I)I"⟩
abbrev b_Ed_nearest : ByteArray := prog_1_method_12_code
def m_Ed_nearest : MethodName := ⟨R_Ed, "nearest", "(Z)J"⟩
abbrev b_Na_setDigits : ByteArray := prog_3_method_3_code
def m_Na_setDigits : MethodName := ⟨R_Na, "setDigits", "([BI)V"⟩
abbrev b_Ed_formatOf : ByteArray := prog_1_method_14_code
def m_Ed_formatOf : MethodName := ⟨R_Ed, "formatOf", "(Z)LExactDigits$Format;"⟩
abbrev b_Ed_nearestToScratch : ByteArray := prog_1_method_28_code
def m_Ed_nearestToScratch : MethodName := ⟨R_Ed, "nearestToScratch", "(IZLExactDigits$Format;)J"⟩
abbrev b_Ed_bitsOfTenTo : ByteArray := prog_1_method_29_code
def m_Ed_bitsOfTenTo : MethodName := ⟨R_Ed, "bitsOfTenTo", "(I)I"⟩
abbrev b_Na_timesTwoTo : ByteArray := prog_3_method_4_code
def m_Na_timesTwoTo : MethodName := ⟨R_Na, "timesTwoTo", "(I)I"⟩
abbrev b_Na_times : ByteArray := prog_3_method_5_code
def m_Na_times : MethodName := ⟨R_Na, "times", "(I)V"⟩
abbrev b_Na_firstDigits : ByteArray := prog_3_method_8_code
def m_Na_firstDigits : MethodName := ⟨R_Na, "firstDigits", "(I)J"⟩
abbrev b_Na_digitAt : ByteArray := prog_3_method_9_code
def m_Na_digitAt : MethodName := ⟨R_Na, "digitAt", "(I)I"⟩
abbrev b_Fo_nearestTo : ByteArray := prog_2_method_7_code
def m_Fo_nearestTo : MethodName := ⟨R_Fo, "nearestTo", "(JZI)J"⟩
abbrev b_Fo_bitsOf : ByteArray := prog_2_method_8_code
def m_Fo_bitsOf : MethodName := ⟨R_Fo, "bitsOf", "(J)I"⟩
abbrev b_Ma_max : ByteArray := prog_14_method_65_code
def m_Ma_max : MethodName := ⟨R_Ma, "max", "(II)I"⟩
abbrev b_Ed_digest : ByteArray := prog_1_method_13_code
def m_Ed_digest : MethodName := ⟨R_Ed, "digest", "()J"⟩
abbrev b_La_real : ByteArray := method_3_code
def m_La_real : MethodName := ⟨R_La, "real", "(LExactDigits;JZ[J)I"⟩
abbrev b_Ed_real : ByteArray := prog_1_method_3_code
def m_Ed_real : MethodName := ⟨R_Ed, "real", "(JZ)I"⟩
abbrev b_Ed_finiteSize : ByteArray := prog_1_method_15_code
def m_Ed_finiteSize : MethodName := ⟨R_Ed, "finiteSize", "(JLExactDigits$Format;)J"⟩
abbrev b_Fo_withoutSign : ByteArray := prog_2_method_4_code
def m_Fo_withoutSign : MethodName := ⟨R_Fo, "withoutSign", "(J)J"⟩
abbrev b_Th_init : ByteArray := prog_17_method_1_code
def m_Th_init : MethodName := ⟨R_Th, "<init>", "()V"⟩
abbrev b_Th_fillInStackTrace : ByteArray := prog_17_method_18_code
def m_Th_fillInStackTrace : MethodName := ⟨R_Th, "fillInStackTrace", "()Ljava/lang/Throwable;"⟩
abbrev b_Ae_init : ByteArray := prog_8_method_1_code
def m_Ae_init : MethodName := ⟨R_Ae, "<init>", "()V"⟩
abbrev b_Re_init : ByteArray := prog_15_method_1_code
def m_Re_init : MethodName := ⟨R_Re, "<init>", "()V"⟩
abbrev b_Ex_init : ByteArray := prog_10_method_1_code
def m_Ex_init : MethodName := ⟨R_Ex, "<init>", "()V"⟩
abbrev b_Ed_giveExact : ByteArray := prog_1_method_18_code
def m_Ed_giveExact : MethodName := ⟨R_Ed, "giveExact", "(JLExactDigits$Format;)V"⟩
abbrev b_Fo_significand : ByteArray := prog_2_method_5_code
def m_Fo_significand : MethodName := ⟨R_Fo, "significand", "(J)J"⟩
abbrev b_Fo_exponent : ByteArray := prog_2_method_6_code
def m_Fo_exponent : MethodName := ⟨R_Fo, "exponent", "(J)I"⟩
abbrev b_La_shortest : ByteArray := method_4_code
def m_La_shortest : MethodName := ⟨R_La, "shortest", "(LExactDigits;JZ[J)I"⟩
abbrev b_Ed_shortest : ByteArray := prog_1_method_4_code
def m_Ed_shortest : MethodName := ⟨R_Ed, "shortest", "(JZ)I"⟩
abbrev b_Ed_shorten : ByteArray := prog_1_method_23_code
def m_Ed_shorten : MethodName := ⟨R_Ed, "shorten", "(JLExactDigits$Format;)V"⟩
abbrev b_Ed_neighbourReadBack : ByteArray := prog_1_method_24_code
def m_Ed_neighbourReadBack : MethodName := ⟨R_Ed, "neighbourReadBack", "(IJLExactDigits$Format;)J"⟩
abbrev b_Ed_firstDigits : ByteArray := prog_1_method_25_code
def m_Ed_firstDigits : MethodName := ⟨R_Ed, "firstDigits", "(I)J"⟩
abbrev b_Ed_isNearerAbove : ByteArray := prog_1_method_26_code
def m_Ed_isNearerAbove : MethodName := ⟨R_Ed, "isNearerAbove", "(IJ)Z"⟩
abbrev b_Ed_readsBack : ByteArray := prog_1_method_27_code
def m_Ed_readsBack : MethodName := ⟨R_Ed, "readsBack", "(JIJLExactDigits$Format;)Z"⟩
abbrev b_La_put : ByteArray := method_5_code
def m_La_put : MethodName := ⟨R_La, "put", "(LExactDigits;II[J)I"⟩
abbrev b_Ed_put : ByteArray := prog_1_method_5_code
def m_Ed_put : MethodName := ⟨R_Ed, "put", "(II)I"⟩
abbrev b_Ed_isBeyond : ByteArray := prog_1_method_16_code
def m_Ed_isBeyond : MethodName := ⟨R_Ed, "isBeyond", "(II)Z"⟩
abbrev b_Ia_init : ByteArray := prog_11_method_1_code
def m_Ia_init : MethodName := ⟨R_Ia, "<init>", "()V"⟩
abbrev b_Ed_append : ByteArray := prog_1_method_20_code
def m_Ed_append : MethodName := ⟨R_Ed, "append", "(III)V"⟩
abbrev b_La_shift : ByteArray := method_6_code
def m_La_shift : MethodName := ⟨R_La, "shift", "(LExactDigits;I[J)I"⟩
abbrev b_Ed_shift : ByteArray := prog_1_method_6_code
def m_Ed_shift : MethodName := ⟨R_Ed, "shift", "(I)I"⟩
abbrev b_La_move : ByteArray := method_7_code
def m_La_move : MethodName := ⟨R_La, "move", "(LExactDigits;I[J)I"⟩
abbrev b_Ed_move : ByteArray := prog_1_method_7_code
def m_Ed_move : MethodName := ⟨R_Ed, "move", "(I)I"⟩
abbrev b_La_round : ByteArray := method_8_code
def m_La_round : MethodName := ⟨R_La, "round", "(LExactDigits;I[J)I"⟩
abbrev b_Ed_round : ByteArray := prog_1_method_8_code
def m_Ed_round : MethodName := ⟨R_Ed, "round", "(I)I"⟩
abbrev b_Ed_keepFirstAndOneMore : ByteArray := prog_1_method_22_code
def m_Ed_keepFirstAndOneMore : MethodName := ⟨R_Ed, "keepFirstAndOneMore", "(I)V"⟩
abbrev b_Ed_keepFirst : ByteArray := prog_1_method_21_code
def m_Ed_keepFirst : MethodName := ⟨R_Ed, "keepFirst", "(I)V"⟩
abbrev b_La_cut : ByteArray := method_9_code
def m_La_cut : MethodName := ⟨R_La, "cut", "(LExactDigits;I[J)I"⟩
abbrev b_Ed_cut : ByteArray := prog_1_method_9_code
def m_Ed_cut : MethodName := ⟨R_Ed, "cut", "(I)I"⟩
abbrev b_La_told : ByteArray := method_10_code
def m_La_told : MethodName := ⟨R_La, "told", "(LExactDigits;I[J)I"⟩
abbrev b_Ed_told : ByteArray := prog_1_method_11_code
def m_Ed_told : MethodName := ⟨R_Ed, "told", "(I)I"⟩
abbrev b_Mo_init : ByteArray := prog_5_method_1_code
def m_Mo_init : MethodName := ⟨R_Mo, "<init>", "()V"⟩
abbrev b_Ro_init : ByteArray := prog_7_method_1_code
def m_Ro_init : MethodName := ⟨R_Ro, "<init>", "()V"⟩
abbrev b_De_init : ByteArray := prog_6_method_1_code
def m_De_init : MethodName := ⟨R_De, "<init>", "()V"⟩
abbrev b_Mo_thrown : ByteArray := prog_5_method_2_code
def m_Mo_thrown : MethodName := ⟨R_Mo, "thrown", "()I"⟩
abbrev b_Mo_whole : ByteArray := prog_5_method_4_code
def m_Mo_whole : MethodName := ⟨R_Mo, "whole", "(J)I"⟩
abbrev b_Ro_set : ByteArray := prog_7_method_2_code
def m_Ro_set : MethodName := ⟨R_Ro, "set", "(J)V"⟩
abbrev b_Lo_divideUnsigned : ByteArray := prog_13_method_44_code
def m_Lo_divideUnsigned : MethodName := ⟨R_Lo, "divideUnsigned", "(JJ)J"⟩
abbrev b_Ro_trim : ByteArray := prog_7_method_3_code
def m_Ro_trim : MethodName := ⟨R_Ro, "trim", "()V"⟩
abbrev b_Mo_real : ByteArray := prog_5_method_6_code
def m_Mo_real : MethodName := ⟨R_Mo, "real", "(JZ)I"⟩
abbrev b_Mo_isNumber : ByteArray := prog_5_method_5_code
def m_Mo_isNumber : MethodName := ⟨R_Mo, "isNumber", "(JZ)Z"⟩
abbrev b_Ro_shift : ByteArray := prog_7_method_5_code
def m_Ro_shift : MethodName := ⟨R_Ro, "shift", "(I)V"⟩
abbrev b_Ro_times : ByteArray := prog_7_method_4_code
def m_Ro_times : MethodName := ⟨R_Ro, "times", "(I)V"⟩
abbrev b_Mo_shortest : ByteArray := prog_5_method_7_code
def m_Mo_shortest : MethodName := ⟨R_Mo, "shortest", "(JZ)I"⟩
abbrev b_Ro_copy : ByteArray := prog_7_method_6_code
def m_Ro_copy : MethodName := ⟨R_Ro, "copy", "(LExactDigitsModel$Row;)V"⟩
abbrev b_Mo_first : ByteArray := prog_5_method_8_code
def m_Mo_first : MethodName := ⟨R_Mo, "first", "(IZ)V"⟩
abbrev b_Ro_raise : ByteArray := prog_7_method_9_code
def m_Ro_raise : MethodName := ⟨R_Ro, "raise", "()V"⟩
abbrev b_Mo_isIn : ByteArray := prog_5_method_9_code
def m_Mo_isIn : MethodName := ⟨R_Mo, "isIn", "(Z)Z"⟩
abbrev b_Ro_compare : ByteArray := prog_7_method_8_code
def m_Ro_compare : MethodName := ⟨R_Ro, "compare", "(LExactDigitsModel$Row;)I"⟩
abbrev b_Ro_at : ByteArray := prog_7_method_7_code
def m_Ro_at : MethodName := ⟨R_Ro, "at", "(I)I"⟩
abbrev b_Mo_put : ByteArray := prog_5_method_10_code
def m_Mo_put : MethodName := ⟨R_Mo, "put", "(II)I"⟩
abbrev b_Mo_shift : ByteArray := prog_5_method_11_code
def m_Mo_shift : MethodName := ⟨R_Mo, "shift", "(I)I"⟩
abbrev b_Mo_kept : ByteArray := prog_5_method_3_code
def m_Mo_kept : MethodName := ⟨R_Mo, "kept", "()I"⟩
abbrev b_Mo_move : ByteArray := prog_5_method_12_code
def m_Mo_move : MethodName := ⟨R_Mo, "move", "(I)I"⟩
abbrev b_Mo_round : ByteArray := prog_5_method_14_code
def m_Mo_round : MethodName := ⟨R_Mo, "round", "(I)I"⟩
abbrev b_Mo_ended : ByteArray := prog_5_method_13_code
def m_Mo_ended : MethodName := ⟨R_Mo, "ended", "(IZ)I"⟩
abbrev b_Mo_cut : ByteArray := prog_5_method_15_code
def m_Mo_cut : MethodName := ⟨R_Mo, "cut", "(I)I"⟩
abbrev b_Mo_digit : ByteArray := prog_5_method_16_code
def m_Mo_digit : MethodName := ⟨R_Mo, "digit", "(I)I"⟩
abbrev b_Mo_told : ByteArray := prog_5_method_17_code
def m_Mo_told : MethodName := ⟨R_Mo, "told", "(I)I"⟩
abbrev b_Mo_nearest : ByteArray := prog_5_method_18_code
def m_Mo_nearest : MethodName := ⟨R_Mo, "nearest", "(Z)J"⟩
abbrev b_De_clear : ByteArray := prog_6_method_2_code
def m_De_clear : MethodName := ⟨R_De, "clear", "()V"⟩
abbrev b_De_add : ByteArray := prog_6_method_12_code
def m_De_add : MethodName := ⟨R_De, "add", "(II)V"⟩
abbrev b_Mo_bits : ByteArray := prog_5_method_19_code
def m_Mo_bits : MethodName := ⟨R_Mo, "bits", "()I"⟩
abbrev b_Mo_ones : ByteArray := prog_5_method_20_code
def m_Mo_ones : MethodName := ⟨R_Mo, "ones", "()J"⟩
abbrev b_Lo_numberOfLeadingZeros : ByteArray := prog_13_method_48_code
def m_Lo_numberOfLeadingZeros : MethodName := ⟨R_Lo, "numberOfLeadingZeros", "(J)I"⟩
abbrev b_In_numberOfLeadingZeros : ByteArray := prog_12_method_47_code
def m_In_numberOfLeadingZeros : MethodName := ⟨R_In, "numberOfLeadingZeros", "(I)I"⟩
abbrev b_De_half : ByteArray := prog_6_method_5_code
def m_De_half : MethodName := ⟨R_De, "half", "()V"⟩
abbrev b_De_twice : ByteArray := prog_6_method_4_code
def m_De_twice : MethodName := ⟨R_De, "twice", "()V"⟩
abbrev b_De_digit : ByteArray := prog_6_method_7_code
def m_De_digit : MethodName := ⟨R_De, "digit", "(I)I"⟩
abbrev b_De_isBelow : ByteArray := prog_6_method_11_code
def m_De_isBelow : MethodName := ⟨R_De, "isBelow", "(I)Z"⟩
abbrev b_De_low : ByteArray := prog_6_method_10_code
def m_De_low : MethodName := ⟨R_De, "low", "()I"⟩
abbrev b_Mo_digest : ByteArray := prog_5_method_21_code
def m_Mo_digest : MethodName := ⟨R_Mo, "digest", "()J"⟩
abbrev b_La_law : ByteArray := code
def m_La_law : MethodName := ⟨R_La, "law", "([I)Z"⟩
/-- the words of the tables that stay as the tables warm -/
def gw : List Cond := lw_tbl.filter goodWord
theorem gw_t {w : Cond} (i : Nat) (h : tables_1[i]? = some w) (g : goodWord w = true) : w ∈ gw := List.mem_filter.mpr ⟨List.mem_append_right _ (List.mem_of_getElem? h), g⟩
theorem gw_s {w : Cond} (i : Nat) (h : (k2_sels lw_privs)[i]? = some w) (g : goodWord w = true) : w ∈ gw := List.mem_filter.mpr ⟨List.mem_append_left _ (List.mem_of_getElem? h), g⟩
theorem gw_in {w : Cond} (h : w ∈ gw) : w ∈ lw_tbl := (List.mem_filter.mp h).1
theorem gw_good {X : Cond} {ws : List Cond} (h : ∀ w ∈ ws, w ∈ gw) : GoodIn (X :: gw) ws := fun w hw => ⟨List.mem_cons_of_mem _ (h w hw), good_of_word (List.mem_filter.mp (h w hw)).2⟩
theorem tw_0 : Cond.initialized "ExactDigitsLaw" ∈ gw := gw_t 0 (by decide +kernel) (by decide +kernel)
theorem tw_1 : Cond.initialized "ExactDigits" ∈ gw := gw_t 1 (by decide +kernel) (by decide +kernel)
theorem tw_2 : Cond.initialized "ExactDigits$Natural" ∈ gw := gw_t 2 (by decide +kernel) (by decide +kernel)
theorem tw_3 : Cond.initialized "ExactDigitsModel" ∈ gw := gw_t 3 (by decide +kernel) (by decide +kernel)
theorem tw_4 : Cond.initialized "ExactDigitsModel$Row" ∈ gw := gw_t 4 (by decide +kernel) (by decide +kernel)
theorem tw_5 : Cond.initialized "ExactDigitsModel$Decimal" ∈ gw := gw_t 5 (by decide +kernel) (by decide +kernel)
theorem tw_6 : Cond.initialized "java/lang/Math" ∈ gw := gw_t 6 (by decide +kernel) (by decide +kernel)
theorem tw_7 : Cond.initialized "java/lang/Long" ∈ gw := gw_t 7 (by decide +kernel) (by decide +kernel)
theorem tw_8 : Cond.initialized "java/lang/System" ∈ gw := gw_t 8 (by decide +kernel) (by decide +kernel)
theorem tw_9 : Cond.initialized "java/lang/Enum" ∈ gw := gw_t 9 (by decide +kernel) (by decide +kernel)
theorem tw_10 : Cond.initialized "ExactDigits$Format" ∈ gw := gw_t 10 (by decide +kernel) (by decide +kernel)
theorem tw_11 : Cond.initialized "java/lang/Throwable" ∈ gw := gw_t 11 (by decide +kernel) (by decide +kernel)
theorem tw_12 : Cond.initialized "java/lang/Exception" ∈ gw := gw_t 12 (by decide +kernel) (by decide +kernel)
theorem tw_13 : Cond.initialized "java/lang/RuntimeException" ∈ gw := gw_t 13 (by decide +kernel) (by decide +kernel)
theorem tw_14 : Cond.initialized "java/lang/ArithmeticException" ∈ gw := gw_t 14 (by decide +kernel) (by decide +kernel)
theorem tw_15 : Cond.initialized "java/lang/IllegalArgumentException" ∈ gw := gw_t 15 (by decide +kernel) (by decide +kernel)
theorem tw_16 : Cond.initialized "java/lang/Integer" ∈ gw := gw_t 16 (by decide +kernel) (by decide +kernel)
theorem tw_17 : Cond.classLink "ExactDigitsLaw" 8 "ExactDigits" ∈ gw := gw_t 17 (by decide +kernel) (by decide +kernel)
theorem tw_18 : Cond.instantiable "ExactDigits" 5 ∈ gw := gw_t 18 (by decide +kernel) (by decide +kernel)
theorem tw_19 : Cond.methodLink "ExactDigitsLaw" 40 m_Ed_init ∈ gw := gw_t 19 (by decide +kernel) (by decide +kernel)
theorem tw_20 : Cond.instanceMethod m_Ed_init ∈ gw := gw_t 20 (by decide +kernel) (by decide +kernel)
theorem tw_21 : Cond.code m_Ed_init prog_1_method_1_code 1 (none) ∈ gw := gw_t 21 (by decide +kernel) (by decide +kernel)
theorem tw_22 : Cond.methodLink "ExactDigits" 1 m_Ob_init ∈ gw := gw_t 22 (by decide +kernel) (by decide +kernel)
theorem tw_23 : Cond.instanceMethod m_Ob_init ∈ gw := gw_t 23 (by decide +kernel) (by decide +kernel)
theorem tw_24 : Cond.code m_Ob_init object_method_1_code 1 (none) ∈ gw := gw_t 24 (by decide +kernel) (by decide +kernel)
theorem tw_25 : Cond.classLink "ExactDigits" 13 "ExactDigits$Natural" ∈ gw := gw_t 25 (by decide +kernel) (by decide +kernel)
theorem tw_26 : Cond.instantiable "ExactDigits$Natural" 2 ∈ gw := gw_t 26 (by decide +kernel) (by decide +kernel)
theorem tw_28 : Cond.instanceMethod m_Na_init ∈ gw := gw_t 28 (by decide +kernel) (by decide +kernel)
theorem tw_29 : Cond.code m_Na_init prog_3_method_1_code 1 (none) ∈ gw := gw_t 29 (by decide +kernel) (by decide +kernel)
theorem tw_30 : Cond.methodLink "ExactDigits$Natural" 1 m_Ob_init ∈ gw := gw_t 30 (by decide +kernel) (by decide +kernel)
theorem tw_31 : Cond.fieldLink "ExactDigits$Natural" 9 "ExactDigits$Natural" "parts" "[I" ∈ gw := gw_t 31 (by decide +kernel) (by decide +kernel)
theorem tw_32 : Cond.fieldLink "ExactDigits$Natural" 13 "ExactDigits$Natural" "size" "I" ∈ gw := gw_t 32 (by decide +kernel) (by decide +kernel)
theorem tw_33 : Cond.laysFinal "ExactDigits$Natural" "ExactDigits$Natural" "parts" "[I" ∈ gw := gw_t 33 (by decide +kernel) (by decide +kernel)
theorem tw_34 : Cond.soleField "ExactDigits$Natural" "parts" ∈ gw := gw_t 34 (by decide +kernel) (by decide +kernel)
theorem tw_35 : Cond.lays "ExactDigits$Natural" "ExactDigits$Natural" "size" "I" ∈ gw := gw_t 35 (by decide +kernel) (by decide +kernel)
theorem tw_36 : Cond.soleField "ExactDigits$Natural" "size" ∈ gw := gw_t 36 (by decide +kernel) (by decide +kernel)
theorem tw_37 : Cond.superclass "ExactDigits$Natural" "java/lang/Object" ∈ gw := gw_t 37 (by decide +kernel) (by decide +kernel)
theorem tw_38 : Cond.arrayClass FieldType.byte ∈ gw := gw_t 38 (by decide +kernel) (by decide +kernel)
theorem tw_39 : Cond.arrayClass FieldType.int ∈ gw := gw_t 39 (by decide +kernel) (by decide +kernel)
theorem tw_40 : Cond.fieldLink "ExactDigits" 9 "ExactDigits" "digits" "[B" ∈ gw := gw_t 40 (by decide +kernel) (by decide +kernel)
theorem tw_41 : Cond.fieldLink "ExactDigits" 20 "ExactDigits" "count" "I" ∈ gw := gw_t 41 (by decide +kernel) (by decide +kernel)
theorem tw_42 : Cond.fieldLink "ExactDigits" 24 "ExactDigits" "point" "I" ∈ gw := gw_t 42 (by decide +kernel) (by decide +kernel)
theorem tw_43 : Cond.fieldLink "ExactDigits" 27 "ExactDigits" "less" "Z" ∈ gw := gw_t 43 (by decide +kernel) (by decide +kernel)
theorem tw_44 : Cond.fieldLink "ExactDigits" 16 "ExactDigits" "scratch" "LExactDigits$Natural;" ∈ gw := gw_t 44 (by decide +kernel) (by decide +kernel)
theorem tw_45 : Cond.laysFinal "ExactDigits" "ExactDigits" "digits" "[B" ∈ gw := gw_t 45 (by decide +kernel) (by decide +kernel)
theorem tw_46 : Cond.soleField "ExactDigits" "digits" ∈ gw := gw_t 46 (by decide +kernel) (by decide +kernel)
theorem tw_47 : Cond.lays "ExactDigits" "ExactDigits" "count" "I" ∈ gw := gw_t 47 (by decide +kernel) (by decide +kernel)
theorem tw_48 : Cond.soleField "ExactDigits" "count" ∈ gw := gw_t 48 (by decide +kernel) (by decide +kernel)
theorem tw_49 : Cond.lays "ExactDigits" "ExactDigits" "point" "I" ∈ gw := gw_t 49 (by decide +kernel) (by decide +kernel)
theorem tw_50 : Cond.soleField "ExactDigits" "point" ∈ gw := gw_t 50 (by decide +kernel) (by decide +kernel)
theorem tw_51 : Cond.lays "ExactDigits" "ExactDigits" "less" "Z" ∈ gw := gw_t 51 (by decide +kernel) (by decide +kernel)
theorem tw_52 : Cond.soleField "ExactDigits" "less" ∈ gw := gw_t 52 (by decide +kernel) (by decide +kernel)
theorem tw_53 : Cond.laysFinal "ExactDigits" "ExactDigits" "scratch" "LExactDigits$Natural;" ∈ gw := gw_t 53 (by decide +kernel) (by decide +kernel)
theorem tw_54 : Cond.soleField "ExactDigits" "scratch" ∈ gw := gw_t 54 (by decide +kernel) (by decide +kernel)
theorem tw_55 : Cond.superclass "ExactDigits" "java/lang/Object" ∈ gw := gw_t 55 (by decide +kernel) (by decide +kernel)
theorem tw_56 : Cond.methodLink "ExactDigitsLaw" 46 m_Ed_whole ∈ gw := gw_t 56 (by decide +kernel) (by decide +kernel)
theorem tw_57 : Cond.instanceMethod m_Ed_whole ∈ gw := gw_t 57 (by decide +kernel) (by decide +kernel)
theorem tw_58 : Cond.selects "ExactDigits" m_Ed_whole m_Ed_whole ∈ gw := gw_t 58 (by decide +kernel) (by decide +kernel)
theorem tw_59 : Cond.code m_Ed_whole prog_1_method_2_code 3 (Option.some FieldType.int) ∈ gw := gw_t 59 (by decide +kernel) (by decide +kernel)
theorem tw_60 : Cond.methodLink "ExactDigits" 31 m_Na_setUnsigned ∈ gw := gw_t 60 (by decide +kernel) (by decide +kernel)
theorem tw_61 : Cond.instanceMethod m_Na_setUnsigned ∈ gw := gw_t 61 (by decide +kernel) (by decide +kernel)
theorem tw_62 : Cond.selects "ExactDigits$Natural" m_Na_setUnsigned m_Na_setUnsigned ∈ gw := gw_t 62 (by decide +kernel) (by decide +kernel)
theorem tw_63 : Cond.code m_Na_setUnsigned prog_3_method_2_code 7 (none) ∈ gw := gw_t 63 (by decide +kernel) (by decide +kernel)
theorem tw_64 : Cond.constantLong "ExactDigits$Natural" 17 (500000000 : Int64) ∈ gw := gw_t 64 (by decide +kernel) (by decide +kernel)
theorem tw_65 : Cond.constantLong "ExactDigits$Natural" 19 (1000000000 : Int64) ∈ gw := gw_t 65 (by decide +kernel) (by decide +kernel)
theorem tw_66 : Cond.methodLink "ExactDigits" 35 m_Ed_giveScratch ∈ gw := gw_t 66 (by decide +kernel) (by decide +kernel)
theorem tw_68 : Cond.instanceMethod m_Ed_giveScratch ∈ gw := gw_t 68 (by decide +kernel) (by decide +kernel)
theorem tw_69 : Cond.code m_Ed_giveScratch prog_1_method_17_code 3 (none) ∈ gw := gw_t 69 (by decide +kernel) (by decide +kernel)
theorem tw_70 : Cond.methodLink "ExactDigits" 107 m_Na_length ∈ gw := gw_t 70 (by decide +kernel) (by decide +kernel)
theorem tw_71 : Cond.instanceMethod m_Na_length ∈ gw := gw_t 71 (by decide +kernel) (by decide +kernel)
theorem tw_72 : Cond.selects "ExactDigits$Natural" m_Na_length m_Na_length ∈ gw := gw_t 72 (by decide +kernel) (by decide +kernel)
theorem tw_73 : Cond.code m_Na_length prog_3_method_6_code 3 (Option.some FieldType.int) ∈ gw := gw_t 73 (by decide +kernel) (by decide +kernel)
theorem tw_74 : Cond.methodLink "ExactDigits" 111 m_Na_copyDigits ∈ gw := gw_t 74 (by decide +kernel) (by decide +kernel)
theorem tw_75 : Cond.instanceMethod m_Na_copyDigits ∈ gw := gw_t 75 (by decide +kernel) (by decide +kernel)
theorem tw_76 : Cond.selects "ExactDigits$Natural" m_Na_copyDigits m_Na_copyDigits ∈ gw := gw_t 76 (by decide +kernel) (by decide +kernel)
theorem tw_77 : Cond.code m_Na_copyDigits prog_3_method_7_code 6 (Option.some FieldType.boolean) ∈ gw := gw_t 77 (by decide +kernel) (by decide +kernel)
theorem tw_78 : Cond.methodLink "ExactDigits$Natural" 34 m_Na_length ∈ gw := gw_t 78 (by decide +kernel) (by decide +kernel)
theorem tw_79 : Cond.methodLink "ExactDigits$Natural" 38 m_Na_hasDigitBelow ∈ gw := gw_t 79 (by decide +kernel) (by decide +kernel)
theorem tw_80 : Cond.instanceMethod m_Na_hasDigitBelow ∈ gw := gw_t 80 (by decide +kernel) (by decide +kernel)
theorem tw_81 : Cond.selects "ExactDigits$Natural" m_Na_hasDigitBelow m_Na_hasDigitBelow ∈ gw := gw_t 81 (by decide +kernel) (by decide +kernel)
theorem tw_82 : Cond.code m_Na_hasDigitBelow prog_3_method_10_code 5 (Option.some FieldType.boolean) ∈ gw := gw_t 82 (by decide +kernel) (by decide +kernel)
theorem tw_83 : Cond.methodLink "ExactDigits$Natural" 21 m_Ma_min ∈ gw := gw_t 83 (by decide +kernel) (by decide +kernel)
theorem tw_84 : Cond.static m_Ma_min ∈ gw := gw_t 84 (by decide +kernel) (by decide +kernel)
theorem tw_85 : Cond.code m_Ma_min prog_14_method_69_code 2 (Option.some FieldType.int) ∈ gw := gw_t 85 (by decide +kernel) (by decide +kernel)
theorem tw_86 : Cond.methodLink "ExactDigits" 115 m_Ma_min ∈ gw := gw_t 86 (by decide +kernel) (by decide +kernel)
theorem tw_87 : Cond.methodLink "ExactDigits" 121 m_Ed_dropZerosBehind ∈ gw := gw_t 87 (by decide +kernel) (by decide +kernel)
theorem tw_89 : Cond.instanceMethod m_Ed_dropZerosBehind ∈ gw := gw_t 89 (by decide +kernel) (by decide +kernel)
theorem tw_90 : Cond.code m_Ed_dropZerosBehind prog_1_method_19_code 1 (none) ∈ gw := gw_t 90 (by decide +kernel) (by decide +kernel)
theorem tw_91 : Cond.methodLink "ExactDigitsLaw" 81 m_Ed_digit ∈ gw := gw_t 91 (by decide +kernel) (by decide +kernel)
theorem tw_92 : Cond.instanceMethod m_Ed_digit ∈ gw := gw_t 92 (by decide +kernel) (by decide +kernel)
theorem tw_93 : Cond.selects "ExactDigits" m_Ed_digit m_Ed_digit ∈ gw := gw_t 93 (by decide +kernel) (by decide +kernel)
theorem tw_94 : Cond.code m_Ed_digit prog_1_method_10_code 4 (Option.some FieldType.int) ∈ gw := gw_t 94 (by decide +kernel) (by decide +kernel)
theorem tw_95 : Cond.methodLink "ExactDigitsLaw" 88 m_Ed_nearest ∈ gw := gw_t 95 (by decide +kernel) (by decide +kernel)
theorem tw_96 : Cond.instanceMethod m_Ed_nearest ∈ gw := gw_t 96 (by decide +kernel) (by decide +kernel)
theorem tw_97 : Cond.selects "ExactDigits" m_Ed_nearest m_Ed_nearest ∈ gw := gw_t 97 (by decide +kernel) (by decide +kernel)
theorem tw_98 : Cond.code m_Ed_nearest prog_1_method_12_code 2 (Option.some FieldType.long) ∈ gw := gw_t 98 (by decide +kernel) (by decide +kernel)
theorem tw_99 : Cond.methodLink "ExactDigits" 65 m_Na_setDigits ∈ gw := gw_t 99 (by decide +kernel) (by decide +kernel)
theorem tw_100 : Cond.instanceMethod m_Na_setDigits ∈ gw := gw_t 100 (by decide +kernel) (by decide +kernel)
theorem tw_101 : Cond.selects "ExactDigits$Natural" m_Na_setDigits m_Na_setDigits ∈ gw := gw_t 101 (by decide +kernel) (by decide +kernel)
theorem tw_102 : Cond.code m_Na_setDigits prog_3_method_3_code 6 (none) ∈ gw := gw_t 102 (by decide +kernel) (by decide +kernel)
theorem tw_103 : Cond.methodLink "ExactDigits" 39 m_Ed_formatOf ∈ gw := gw_t 103 (by decide +kernel) (by decide +kernel)
theorem tw_104 : Cond.static m_Ed_formatOf ∈ gw := gw_t 104 (by decide +kernel) (by decide +kernel)
theorem tw_105 : Cond.code m_Ed_formatOf prog_1_method_14_code 1 (Option.some (FieldType.object "ExactDigits$Format")) ∈ gw := gw_t 105 (by decide +kernel) (by decide +kernel)
theorem tw_106 : Cond.fieldLink "ExactDigits" 87 "ExactDigits$Format" "FLOAT" "LExactDigits$Format;" ∈ gw := gw_t 106 (by decide +kernel) (by decide +kernel)
theorem tw_108 : Cond.fieldLink "ExactDigits" 93 "ExactDigits$Format" "DOUBLE" "LExactDigits$Format;" ∈ gw := gw_t 108 (by decide +kernel) (by decide +kernel)
theorem tw_110 : Cond.methodLink "ExactDigits" 79 m_Ed_nearestToScratch ∈ gw := gw_t 110 (by decide +kernel) (by decide +kernel)
theorem tw_112 : Cond.instanceMethod m_Ed_nearestToScratch ∈ gw := gw_t 112 (by decide +kernel) (by decide +kernel)
theorem tw_113 : Cond.code m_Ed_nearestToScratch prog_1_method_28_code 9 (Option.some FieldType.long) ∈ gw := gw_t 113 (by decide +kernel) (by decide +kernel)
theorem tw_114 : Cond.methodLink "ExactDigits" 154 m_Ed_bitsOfTenTo ∈ gw := gw_t 114 (by decide +kernel) (by decide +kernel)
theorem tw_115 : Cond.static m_Ed_bitsOfTenTo ∈ gw := gw_t 115 (by decide +kernel) (by decide +kernel)
theorem tw_116 : Cond.code m_Ed_bitsOfTenTo prog_1_method_29_code 1 (Option.some FieldType.int) ∈ gw := gw_t 116 (by decide +kernel) (by decide +kernel)
theorem tw_117 : Cond.constant "ExactDigits" 166 (217706 : Int32) ∈ gw := gw_t 117 (by decide +kernel) (by decide +kernel)
theorem tw_118 : Cond.methodLink "ExactDigits" 69 m_Na_timesTwoTo ∈ gw := gw_t 118 (by decide +kernel) (by decide +kernel)
theorem tw_119 : Cond.instanceMethod m_Na_timesTwoTo ∈ gw := gw_t 119 (by decide +kernel) (by decide +kernel)
theorem tw_120 : Cond.selects "ExactDigits$Natural" m_Na_timesTwoTo m_Na_timesTwoTo ∈ gw := gw_t 120 (by decide +kernel) (by decide +kernel)
theorem tw_121 : Cond.code m_Na_timesTwoTo prog_3_method_4_code 3 (Option.some FieldType.int) ∈ gw := gw_t 121 (by decide +kernel) (by decide +kernel)
theorem tw_122 : Cond.methodLink "ExactDigits$Natural" 27 m_Na_times ∈ gw := gw_t 122 (by decide +kernel) (by decide +kernel)
theorem tw_124 : Cond.instanceMethod m_Na_times ∈ gw := gw_t 124 (by decide +kernel) (by decide +kernel)
theorem tw_125 : Cond.code m_Na_times prog_3_method_5_code 7 (none) ∈ gw := gw_t 125 (by decide +kernel) (by decide +kernel)
theorem tw_126 : Cond.fieldLink "ExactDigits$Natural" 31 "ExactDigits$Natural" "POWERS_OF_FIVE" "[I" ∈ gw := gw_t 126 (by decide +kernel) (by decide +kernel)
theorem tw_128 : Cond.methodLink "ExactDigits" 157 m_Na_firstDigits ∈ gw := gw_t 128 (by decide +kernel) (by decide +kernel)
theorem tw_129 : Cond.instanceMethod m_Na_firstDigits ∈ gw := gw_t 129 (by decide +kernel) (by decide +kernel)
theorem tw_130 : Cond.selects "ExactDigits$Natural" m_Na_firstDigits m_Na_firstDigits ∈ gw := gw_t 130 (by decide +kernel) (by decide +kernel)
theorem tw_131 : Cond.code m_Na_firstDigits prog_3_method_8_code 6 (Option.some FieldType.long) ∈ gw := gw_t 131 (by decide +kernel) (by decide +kernel)
theorem tw_132 : Cond.constantLong "ExactDigits$Natural" 42 (10 : Int64) ∈ gw := gw_t 132 (by decide +kernel) (by decide +kernel)
theorem tw_133 : Cond.methodLink "ExactDigits$Natural" 44 m_Na_digitAt ∈ gw := gw_t 133 (by decide +kernel) (by decide +kernel)
theorem tw_135 : Cond.instanceMethod m_Na_digitAt ∈ gw := gw_t 135 (by decide +kernel) (by decide +kernel)
theorem tw_136 : Cond.code m_Na_digitAt prog_3_method_9_code 4 (Option.some FieldType.int) ∈ gw := gw_t 136 (by decide +kernel) (by decide +kernel)
theorem tw_137 : Cond.methodLink "ExactDigits" 158 m_Na_hasDigitBelow ∈ gw := gw_t 137 (by decide +kernel) (by decide +kernel)
theorem tw_138 : Cond.methodLink "ExactDigits" 162 m_Fo_nearestTo ∈ gw := gw_t 138 (by decide +kernel) (by decide +kernel)
theorem tw_139 : Cond.instanceMethod m_Fo_nearestTo ∈ gw := gw_t 139 (by decide +kernel) (by decide +kernel)
theorem tw_140 : Cond.selects "ExactDigits$Format" m_Fo_nearestTo m_Fo_nearestTo ∈ gw := gw_t 140 (by decide +kernel) (by decide +kernel)
theorem tw_141 : Cond.code m_Fo_nearestTo prog_2_method_7_code 15 (Option.some FieldType.long) ∈ gw := gw_t 141 (by decide +kernel) (by decide +kernel)
theorem tw_142 : Cond.methodLink "ExactDigits$Format" 49 m_Fo_bitsOf ∈ gw := gw_t 142 (by decide +kernel) (by decide +kernel)
theorem tw_143 : Cond.static m_Fo_bitsOf ∈ gw := gw_t 143 (by decide +kernel) (by decide +kernel)
theorem tw_144 : Cond.code m_Fo_bitsOf prog_2_method_8_code 3 (Option.some FieldType.int) ∈ gw := gw_t 144 (by decide +kernel) (by decide +kernel)
theorem tw_145 : Cond.methodLink "ExactDigits$Format" 43 m_Ma_max ∈ gw := gw_t 145 (by decide +kernel) (by decide +kernel)
theorem tw_146 : Cond.static m_Ma_max ∈ gw := gw_t 146 (by decide +kernel) (by decide +kernel)
theorem tw_147 : Cond.code m_Ma_max prog_14_method_65_code 2 (Option.some FieldType.int) ∈ gw := gw_t 147 (by decide +kernel) (by decide +kernel)
theorem tw_148 : Cond.constantLong "ExactDigits$Format" 53 (2 : Int64) ∈ gw := gw_t 148 (by decide +kernel) (by decide +kernel)
theorem tw_149 : Cond.methodLink "ExactDigitsLaw" 93 m_Ed_digest ∈ gw := gw_t 149 (by decide +kernel) (by decide +kernel)
theorem tw_150 : Cond.instanceMethod m_Ed_digest ∈ gw := gw_t 150 (by decide +kernel) (by decide +kernel)
theorem tw_151 : Cond.selects "ExactDigits" m_Ed_digest m_Ed_digest ∈ gw := gw_t 151 (by decide +kernel) (by decide +kernel)
theorem tw_152 : Cond.code m_Ed_digest prog_1_method_13_code 4 (Option.some FieldType.long) ∈ gw := gw_t 152 (by decide +kernel) (by decide +kernel)
theorem tw_153 : Cond.constantLong "ExactDigits" 83 (7 : Int64) ∈ gw := gw_t 153 (by decide +kernel) (by decide +kernel)
theorem tw_154 : Cond.constantLong "ExactDigits" 85 (31 : Int64) ∈ gw := gw_t 154 (by decide +kernel) (by decide +kernel)
theorem tw_155 : Cond.methodLink "ExactDigitsLaw" 51 m_La_real ∈ gw := gw_t 155 (by decide +kernel) (by decide +kernel)
theorem tw_156 : Cond.static m_La_real ∈ gw := gw_t 156 (by decide +kernel) (by decide +kernel)
theorem tw_157 : Cond.codeWith m_La_real method_3_code 6 (Option.some FieldType.int) [(0, 11, 14, 13)] ∈ gw := gw_t 157 (by decide +kernel) (by decide +kernel)
theorem tw_158 : Cond.classLink "ExactDigitsLaw" 13 "java/lang/ArithmeticException" ∈ gw := gw_t 158 (by decide +kernel) (by decide +kernel)
theorem tw_159 : Cond.methodLink "ExactDigitsLaw" 7 m_Ed_real ∈ gw := gw_t 159 (by decide +kernel) (by decide +kernel)
theorem tw_160 : Cond.instanceMethod m_Ed_real ∈ gw := gw_t 160 (by decide +kernel) (by decide +kernel)
theorem tw_161 : Cond.selects "ExactDigits" m_Ed_real m_Ed_real ∈ gw := gw_t 161 (by decide +kernel) (by decide +kernel)
theorem tw_162 : Cond.code m_Ed_real prog_1_method_3_code 5 (Option.some FieldType.int) ∈ gw := gw_t 162 (by decide +kernel) (by decide +kernel)
theorem tw_163 : Cond.methodLink "ExactDigits" 43 m_Ed_finiteSize ∈ gw := gw_t 163 (by decide +kernel) (by decide +kernel)
theorem tw_164 : Cond.static m_Ed_finiteSize ∈ gw := gw_t 164 (by decide +kernel) (by decide +kernel)
theorem tw_165 : Cond.code m_Ed_finiteSize prog_1_method_15_code 5 (Option.some FieldType.long) ∈ gw := gw_t 165 (by decide +kernel) (by decide +kernel)
theorem tw_166 : Cond.methodLink "ExactDigits" 96 m_Fo_withoutSign ∈ gw := gw_t 166 (by decide +kernel) (by decide +kernel)
theorem tw_167 : Cond.instanceMethod m_Fo_withoutSign ∈ gw := gw_t 167 (by decide +kernel) (by decide +kernel)
theorem tw_168 : Cond.selects "ExactDigits$Format" m_Fo_withoutSign m_Fo_withoutSign ∈ gw := gw_t 168 (by decide +kernel) (by decide +kernel)
theorem tw_169 : Cond.code m_Fo_withoutSign prog_2_method_4_code 3 (Option.some FieldType.long) ∈ gw := gw_t 169 (by decide +kernel) (by decide +kernel)
theorem tw_170 : Cond.classLink "ExactDigits" 104 "java/lang/ArithmeticException" ∈ gw := gw_t 170 (by decide +kernel) (by decide +kernel)
theorem tw_171 : Cond.instantiable "java/lang/ArithmeticException" 6 ∈ gw := gw_t 171 (by decide +kernel) (by decide +kernel)
theorem tw_179 : Cond.selects "java/lang/ArithmeticException" ⟨"java/lang/Throwable", "fillInStackTrace", "(I)Ljava/lang/Throwable;"⟩ ⟨"java/lang/Throwable", "fillInStackTrace", "(I)Ljava/lang/Throwable;"⟩ ∈ gw := gw_t 179 (by decide +kernel) (by decide +kernel)
theorem tw_180 : Cond.selects "java/lang/ArithmeticException" m_Th_fillInStackTrace m_Th_fillInStackTrace ∈ gw := gw_t 180 (by decide +kernel) (by decide +kernel)
theorem tw_181 : Cond.lays "java/lang/ArithmeticException" "java/lang/Throwable" "cause" "Ljava/lang/Throwable;" ∈ gw := gw_t 181 (by decide +kernel) (by decide +kernel)
theorem tw_182 : Cond.lays "java/lang/Throwable" "java/lang/Throwable" "cause" "Ljava/lang/Throwable;" ∈ gw := gw_t 182 (by decide +kernel) (by decide +kernel)
theorem tw_183 : Cond.lays "java/lang/ArithmeticException" "java/lang/Throwable" "stackTrace" "[Ljava/lang/StackTraceElement;" ∈ gw := gw_t 183 (by decide +kernel) (by decide +kernel)
theorem tw_184 : Cond.lays "java/lang/Throwable" "java/lang/Throwable" "stackTrace" "[Ljava/lang/StackTraceElement;" ∈ gw := gw_t 184 (by decide +kernel) (by decide +kernel)
theorem tw_185 : Cond.lays "java/lang/ArithmeticException" "java/lang/Throwable" "suppressedExceptions" "Ljava/util/List;" ∈ gw := gw_t 185 (by decide +kernel) (by decide +kernel)
theorem tw_186 : Cond.lays "java/lang/Throwable" "java/lang/Throwable" "suppressedExceptions" "Ljava/util/List;" ∈ gw := gw_t 186 (by decide +kernel) (by decide +kernel)
theorem tw_187 : Cond.lays "java/lang/ArithmeticException" "java/lang/Throwable" "detailMessage" "Ljava/lang/String;" ∈ gw := gw_t 187 (by decide +kernel) (by decide +kernel)
theorem tw_188 : Cond.lays "java/lang/Throwable" "java/lang/Throwable" "detailMessage" "Ljava/lang/String;" ∈ gw := gw_t 188 (by decide +kernel) (by decide +kernel)
theorem tw_189 : Cond.lays "java/lang/ArithmeticException" "java/lang/Throwable" "backtrace" "Ljava/lang/Object;" ∈ gw := gw_t 189 (by decide +kernel) (by decide +kernel)
theorem tw_190 : Cond.lays "java/lang/Throwable" "java/lang/Throwable" "backtrace" "Ljava/lang/Object;" ∈ gw := gw_t 190 (by decide +kernel) (by decide +kernel)
theorem tw_191 : Cond.fieldLink "java/lang/Throwable" 198 "java/lang/Throwable" "backtrace" "Ljava/lang/Object;" ∈ gw := gw_t 191 (by decide +kernel) (by decide +kernel)
theorem tw_192 : Cond.superclass "java/lang/Throwable" "java/lang/Object" ∈ gw := gw_t 192 (by decide +kernel) (by decide +kernel)
theorem tw_193 : Cond.instanceMethod m_Th_init ∈ gw := gw_t 193 (by decide +kernel) (by decide +kernel)
theorem tw_194 : Cond.code m_Th_init prog_17_method_1_code 1 (none) ∈ gw := gw_t 194 (by decide +kernel) (by decide +kernel)
theorem tw_195 : Cond.methodLink "java/lang/Throwable" 1 m_Ob_init ∈ gw := gw_t 195 (by decide +kernel) (by decide +kernel)
theorem tw_196 : Cond.fieldLink "java/lang/Throwable" 13 "java/lang/Throwable" "UNASSIGNED_STACK" "[Ljava/lang/StackTraceElement;" ∈ gw := gw_t 196 (by decide +kernel) (by decide +kernel)
theorem tw_198 : Cond.fieldLink "java/lang/Throwable" 20 "java/lang/Throwable" "SUPPRESSED_SENTINEL" "Ljava/util/List;" ∈ gw := gw_t 198 (by decide +kernel) (by decide +kernel)
theorem tw_200 : Cond.methodLink "java/lang/Throwable" 27 m_Th_fillInStackTrace ∈ gw := gw_t 200 (by decide +kernel) (by decide +kernel)
theorem tw_201 : Cond.instanceMethod m_Th_fillInStackTrace ∈ gw := gw_t 201 (by decide +kernel) (by decide +kernel)
theorem tw_202 : Cond.sameMethod "java/lang/Throwable" "java/lang/Throwable" "fillInStackTrace" "()Ljava/lang/Throwable;" ∈ gw := gw_t 202 (by decide +kernel) (by decide +kernel)
theorem tw_203 : Cond.selects "java/lang/IllegalArgumentException" m_Th_fillInStackTrace m_Th_fillInStackTrace ∈ gw := gw_t 203 (by decide +kernel) (by decide +kernel)
theorem tw_204 : Cond.codeSync m_Th_fillInStackTrace prog_17_method_18_code 1 (Option.some (FieldType.object "java/lang/Throwable")) ∈ gw := gw_t 204 (by decide +kernel) (by decide +kernel)
theorem tw_205 : Cond.methodLink "java/lang/Throwable" 202 ⟨"java/lang/Throwable", "fillInStackTrace", "(I)Ljava/lang/Throwable;"⟩ ∈ gw := gw_t 205 (by decide +kernel) (by decide +kernel)
theorem tw_207 : Cond.instanceMethod ⟨"java/lang/Throwable", "fillInStackTrace", "(I)Ljava/lang/Throwable;"⟩ ∈ gw := gw_t 207 (by decide +kernel) (by decide +kernel)
theorem tw_208 : Cond.instantiable "java/lang/Throwable" 6 ∈ gw := gw_t 208 (by decide +kernel) (by decide +kernel)
theorem tw_209 : Cond.native ⟨"java/lang/Throwable", "fillInStackTrace", "(I)Ljava/lang/Throwable;"⟩ ∈ gw := gw_t 209 (by decide +kernel) (by decide +kernel)
theorem tw_210 : Cond.methodLink "ExactDigits" 106 m_Ae_init ∈ gw := gw_t 210 (by decide +kernel) (by decide +kernel)
theorem tw_211 : Cond.instanceMethod m_Ae_init ∈ gw := gw_t 211 (by decide +kernel) (by decide +kernel)
theorem tw_212 : Cond.code m_Ae_init prog_8_method_1_code 1 (none) ∈ gw := gw_t 212 (by decide +kernel) (by decide +kernel)
theorem tw_213 : Cond.methodLink "java/lang/ArithmeticException" 1 m_Re_init ∈ gw := gw_t 213 (by decide +kernel) (by decide +kernel)
theorem tw_214 : Cond.instanceMethod m_Re_init ∈ gw := gw_t 214 (by decide +kernel) (by decide +kernel)
theorem tw_215 : Cond.code m_Re_init prog_15_method_1_code 1 (none) ∈ gw := gw_t 215 (by decide +kernel) (by decide +kernel)
theorem tw_216 : Cond.methodLink "java/lang/RuntimeException" 1 m_Ex_init ∈ gw := gw_t 216 (by decide +kernel) (by decide +kernel)
theorem tw_217 : Cond.instanceMethod m_Ex_init ∈ gw := gw_t 217 (by decide +kernel) (by decide +kernel)
theorem tw_218 : Cond.code m_Ex_init prog_10_method_1_code 1 (none) ∈ gw := gw_t 218 (by decide +kernel) (by decide +kernel)
theorem tw_219 : Cond.methodLink "java/lang/Exception" 1 m_Th_init ∈ gw := gw_t 219 (by decide +kernel) (by decide +kernel)
theorem tw_220 : Cond.fieldLink "java/lang/Throwable" 198 "java/lang/Throwable" "backtrace" "Ljava/lang/Object;" ∈ gw := gw_t 220 (by decide +kernel) (by decide +kernel)
theorem tw_221 : Cond.fieldLink "java/lang/Throwable" 7 "java/lang/Throwable" "cause" "Ljava/lang/Throwable;" ∈ gw := gw_t 221 (by decide +kernel) (by decide +kernel)
theorem tw_222 : Cond.fieldLink "java/lang/Throwable" 17 "java/lang/Throwable" "stackTrace" "[Ljava/lang/StackTraceElement;" ∈ gw := gw_t 222 (by decide +kernel) (by decide +kernel)
theorem tw_223 : Cond.fieldLink "java/lang/Throwable" 24 "java/lang/Throwable" "suppressedExceptions" "Ljava/util/List;" ∈ gw := gw_t 223 (by decide +kernel) (by decide +kernel)
theorem tw_224 : Cond.soleField "java/lang/Throwable" "backtrace" ∈ gw := gw_t 224 (by decide +kernel) (by decide +kernel)
theorem tw_225 : Cond.soleField "java/lang/Throwable" "detailMessage" ∈ gw := gw_t 225 (by decide +kernel) (by decide +kernel)
theorem tw_226 : Cond.soleField "java/lang/Throwable" "cause" ∈ gw := gw_t 226 (by decide +kernel) (by decide +kernel)
theorem tw_227 : Cond.soleField "java/lang/Throwable" "stackTrace" ∈ gw := gw_t 227 (by decide +kernel) (by decide +kernel)
theorem tw_228 : Cond.lays "java/lang/ArithmeticException" "java/lang/Throwable" "depth" "I" ∈ gw := gw_t 228 (by decide +kernel) (by decide +kernel)
theorem tw_229 : Cond.soleField "java/lang/Throwable" "depth" ∈ gw := gw_t 229 (by decide +kernel) (by decide +kernel)
theorem tw_230 : Cond.soleField "java/lang/Throwable" "suppressedExceptions" ∈ gw := gw_t 230 (by decide +kernel) (by decide +kernel)
theorem tw_231 : Cond.superclass "java/lang/ArithmeticException" "java/lang/RuntimeException" ∈ gw := gw_t 231 (by decide +kernel) (by decide +kernel)
theorem tw_232 : Cond.methodLink "ExactDigits" 47 m_Ed_giveExact ∈ gw := gw_t 232 (by decide +kernel) (by decide +kernel)
theorem tw_234 : Cond.instanceMethod m_Ed_giveExact ∈ gw := gw_t 234 (by decide +kernel) (by decide +kernel)
theorem tw_235 : Cond.code m_Ed_giveExact prog_1_method_18_code 4 (none) ∈ gw := gw_t 235 (by decide +kernel) (by decide +kernel)
theorem tw_236 : Cond.methodLink "ExactDigits" 124 m_Fo_significand ∈ gw := gw_t 236 (by decide +kernel) (by decide +kernel)
theorem tw_237 : Cond.instanceMethod m_Fo_significand ∈ gw := gw_t 237 (by decide +kernel) (by decide +kernel)
theorem tw_238 : Cond.selects "ExactDigits$Format" m_Fo_significand m_Fo_significand ∈ gw := gw_t 238 (by decide +kernel) (by decide +kernel)
theorem tw_239 : Cond.code m_Fo_significand prog_2_method_5_code 7 (Option.some FieldType.long) ∈ gw := gw_t 239 (by decide +kernel) (by decide +kernel)
theorem tw_240 : Cond.methodLink "ExactDigits" 127 m_Fo_exponent ∈ gw := gw_t 240 (by decide +kernel) (by decide +kernel)
theorem tw_241 : Cond.instanceMethod m_Fo_exponent ∈ gw := gw_t 241 (by decide +kernel) (by decide +kernel)
theorem tw_242 : Cond.selects "ExactDigits$Format" m_Fo_exponent m_Fo_exponent ∈ gw := gw_t 242 (by decide +kernel) (by decide +kernel)
theorem tw_243 : Cond.code m_Fo_exponent prog_2_method_6_code 4 (Option.some FieldType.int) ∈ gw := gw_t 243 (by decide +kernel) (by decide +kernel)
theorem tw_244 : Cond.methodLink "ExactDigitsLaw" 61 m_La_shortest ∈ gw := gw_t 244 (by decide +kernel) (by decide +kernel)
theorem tw_245 : Cond.static m_La_shortest ∈ gw := gw_t 245 (by decide +kernel) (by decide +kernel)
theorem tw_246 : Cond.codeWith m_La_shortest method_4_code 6 (Option.some FieldType.int) [(0, 11, 14, 13)] ∈ gw := gw_t 246 (by decide +kernel) (by decide +kernel)
theorem tw_247 : Cond.methodLink "ExactDigitsLaw" 15 m_Ed_shortest ∈ gw := gw_t 247 (by decide +kernel) (by decide +kernel)
theorem tw_248 : Cond.instanceMethod m_Ed_shortest ∈ gw := gw_t 248 (by decide +kernel) (by decide +kernel)
theorem tw_249 : Cond.selects "ExactDigits" m_Ed_shortest m_Ed_shortest ∈ gw := gw_t 249 (by decide +kernel) (by decide +kernel)
theorem tw_250 : Cond.code m_Ed_shortest prog_1_method_4_code 7 (Option.some FieldType.int) ∈ gw := gw_t 250 (by decide +kernel) (by decide +kernel)
theorem tw_251 : Cond.methodLink "ExactDigits" 51 m_Ed_shorten ∈ gw := gw_t 251 (by decide +kernel) (by decide +kernel)
theorem tw_253 : Cond.instanceMethod m_Ed_shorten ∈ gw := gw_t 253 (by decide +kernel) (by decide +kernel)
theorem tw_254 : Cond.code m_Ed_shorten prog_1_method_23_code 8 (none) ∈ gw := gw_t 254 (by decide +kernel) (by decide +kernel)
theorem tw_255 : Cond.methodLink "ExactDigits" 134 m_Ed_neighbourReadBack ∈ gw := gw_t 255 (by decide +kernel) (by decide +kernel)
theorem tw_257 : Cond.instanceMethod m_Ed_neighbourReadBack ∈ gw := gw_t 257 (by decide +kernel) (by decide +kernel)
theorem tw_258 : Cond.code m_Ed_neighbourReadBack prog_1_method_24_code 11 (Option.some FieldType.long) ∈ gw := gw_t 258 (by decide +kernel) (by decide +kernel)
theorem tw_259 : Cond.methodLink "ExactDigits" 140 m_Ed_firstDigits ∈ gw := gw_t 259 (by decide +kernel) (by decide +kernel)
theorem tw_261 : Cond.instanceMethod m_Ed_firstDigits ∈ gw := gw_t 261 (by decide +kernel) (by decide +kernel)
theorem tw_262 : Cond.code m_Ed_firstDigits prog_1_method_25_code 5 (Option.some FieldType.long) ∈ gw := gw_t 262 (by decide +kernel) (by decide +kernel)
theorem tw_263 : Cond.constantLong "ExactDigits" 152 (10 : Int64) ∈ gw := gw_t 263 (by decide +kernel) (by decide +kernel)
theorem tw_264 : Cond.methodLink "ExactDigits" 144 m_Ed_isNearerAbove ∈ gw := gw_t 264 (by decide +kernel) (by decide +kernel)
theorem tw_266 : Cond.instanceMethod m_Ed_isNearerAbove ∈ gw := gw_t 266 (by decide +kernel) (by decide +kernel)
theorem tw_267 : Cond.code m_Ed_isNearerAbove prog_1_method_26_code 4 (Option.some FieldType.boolean) ∈ gw := gw_t 267 (by decide +kernel) (by decide +kernel)
theorem tw_268 : Cond.methodLink "ExactDigits" 148 m_Ed_readsBack ∈ gw := gw_t 268 (by decide +kernel) (by decide +kernel)
theorem tw_270 : Cond.instanceMethod m_Ed_readsBack ∈ gw := gw_t 270 (by decide +kernel) (by decide +kernel)
theorem tw_271 : Cond.code m_Ed_readsBack prog_1_method_27_code 7 (Option.some FieldType.boolean) ∈ gw := gw_t 271 (by decide +kernel) (by decide +kernel)
theorem tw_272 : Cond.constantLong "ExactDigits" 138 (-1 : Int64) ∈ gw := gw_t 272 (by decide +kernel) (by decide +kernel)
theorem tw_273 : Cond.methodLink "ExactDigitsLaw" 64 m_La_put ∈ gw := gw_t 273 (by decide +kernel) (by decide +kernel)
theorem tw_274 : Cond.static m_La_put ∈ gw := gw_t 274 (by decide +kernel) (by decide +kernel)
theorem tw_275 : Cond.codeWith m_La_put method_5_code 5 (Option.some FieldType.int) [(0, 10, 13, 22)] ∈ gw := gw_t 275 (by decide +kernel) (by decide +kernel)
theorem tw_276 : Cond.classLink "ExactDigitsLaw" 22 "java/lang/IllegalArgumentException" ∈ gw := gw_t 276 (by decide +kernel) (by decide +kernel)
theorem tw_277 : Cond.methodLink "ExactDigitsLaw" 18 m_Ed_put ∈ gw := gw_t 277 (by decide +kernel) (by decide +kernel)
theorem tw_278 : Cond.instanceMethod m_Ed_put ∈ gw := gw_t 278 (by decide +kernel) (by decide +kernel)
theorem tw_279 : Cond.selects "ExactDigits" m_Ed_put m_Ed_put ∈ gw := gw_t 279 (by decide +kernel) (by decide +kernel)
theorem tw_280 : Cond.code m_Ed_put prog_1_method_5_code 4 (Option.some FieldType.int) ∈ gw := gw_t 280 (by decide +kernel) (by decide +kernel)
theorem tw_281 : Cond.methodLink "ExactDigits" 54 m_Ed_isBeyond ∈ gw := gw_t 281 (by decide +kernel) (by decide +kernel)
theorem tw_282 : Cond.static m_Ed_isBeyond ∈ gw := gw_t 282 (by decide +kernel) (by decide +kernel)
theorem tw_283 : Cond.code m_Ed_isBeyond prog_1_method_16_code 2 (Option.some FieldType.boolean) ∈ gw := gw_t 283 (by decide +kernel) (by decide +kernel)
theorem tw_284 : Cond.classLink "ExactDigits" 58 "java/lang/IllegalArgumentException" ∈ gw := gw_t 284 (by decide +kernel) (by decide +kernel)
theorem tw_285 : Cond.instantiable "java/lang/IllegalArgumentException" 6 ∈ gw := gw_t 285 (by decide +kernel) (by decide +kernel)
theorem tw_287 : Cond.selects "java/lang/IllegalArgumentException" ⟨"java/lang/Throwable", "fillInStackTrace", "(I)Ljava/lang/Throwable;"⟩ ⟨"java/lang/Throwable", "fillInStackTrace", "(I)Ljava/lang/Throwable;"⟩ ∈ gw := gw_t 287 (by decide +kernel) (by decide +kernel)
theorem tw_288 : Cond.lays "java/lang/IllegalArgumentException" "java/lang/Throwable" "cause" "Ljava/lang/Throwable;" ∈ gw := gw_t 288 (by decide +kernel) (by decide +kernel)
theorem tw_289 : Cond.lays "java/lang/IllegalArgumentException" "java/lang/Throwable" "stackTrace" "[Ljava/lang/StackTraceElement;" ∈ gw := gw_t 289 (by decide +kernel) (by decide +kernel)
theorem tw_290 : Cond.lays "java/lang/IllegalArgumentException" "java/lang/Throwable" "suppressedExceptions" "Ljava/util/List;" ∈ gw := gw_t 290 (by decide +kernel) (by decide +kernel)
theorem tw_291 : Cond.lays "java/lang/IllegalArgumentException" "java/lang/Throwable" "detailMessage" "Ljava/lang/String;" ∈ gw := gw_t 291 (by decide +kernel) (by decide +kernel)
theorem tw_292 : Cond.lays "java/lang/IllegalArgumentException" "java/lang/Throwable" "backtrace" "Ljava/lang/Object;" ∈ gw := gw_t 292 (by decide +kernel) (by decide +kernel)
theorem tw_293 : Cond.methodLink "ExactDigits" 60 m_Ia_init ∈ gw := gw_t 293 (by decide +kernel) (by decide +kernel)
theorem tw_294 : Cond.instanceMethod m_Ia_init ∈ gw := gw_t 294 (by decide +kernel) (by decide +kernel)
theorem tw_295 : Cond.code m_Ia_init prog_11_method_1_code 1 (none) ∈ gw := gw_t 295 (by decide +kernel) (by decide +kernel)
theorem tw_296 : Cond.methodLink "java/lang/IllegalArgumentException" 1 m_Re_init ∈ gw := gw_t 296 (by decide +kernel) (by decide +kernel)
theorem tw_297 : Cond.lays "java/lang/IllegalArgumentException" "java/lang/Throwable" "depth" "I" ∈ gw := gw_t 297 (by decide +kernel) (by decide +kernel)
theorem tw_298 : Cond.superclass "java/lang/IllegalArgumentException" "java/lang/RuntimeException" ∈ gw := gw_t 298 (by decide +kernel) (by decide +kernel)
theorem tw_299 : Cond.methodLink "ExactDigits" 61 m_Ed_append ∈ gw := gw_t 299 (by decide +kernel) (by decide +kernel)
theorem tw_301 : Cond.instanceMethod m_Ed_append ∈ gw := gw_t 301 (by decide +kernel) (by decide +kernel)
theorem tw_302 : Cond.code m_Ed_append prog_1_method_20_code 5 (none) ∈ gw := gw_t 302 (by decide +kernel) (by decide +kernel)
theorem tw_303 : Cond.methodLink "ExactDigitsLaw" 68 m_La_shift ∈ gw := gw_t 303 (by decide +kernel) (by decide +kernel)
theorem tw_304 : Cond.static m_La_shift ∈ gw := gw_t 304 (by decide +kernel) (by decide +kernel)
theorem tw_305 : Cond.codeWith m_La_shift method_6_code 4 (Option.some FieldType.int) [(0, 9, 12, 22)] ∈ gw := gw_t 305 (by decide +kernel) (by decide +kernel)
theorem tw_306 : Cond.methodLink "ExactDigitsLaw" 24 m_Ed_shift ∈ gw := gw_t 306 (by decide +kernel) (by decide +kernel)
theorem tw_307 : Cond.instanceMethod m_Ed_shift ∈ gw := gw_t 307 (by decide +kernel) (by decide +kernel)
theorem tw_308 : Cond.selects "ExactDigits" m_Ed_shift m_Ed_shift ∈ gw := gw_t 308 (by decide +kernel) (by decide +kernel)
theorem tw_309 : Cond.code m_Ed_shift prog_1_method_6_code 4 (Option.some FieldType.int) ∈ gw := gw_t 309 (by decide +kernel) (by decide +kernel)
theorem tw_310 : Cond.methodLink "ExactDigitsLaw" 72 m_La_move ∈ gw := gw_t 310 (by decide +kernel) (by decide +kernel)
theorem tw_311 : Cond.static m_La_move ∈ gw := gw_t 311 (by decide +kernel) (by decide +kernel)
theorem tw_312 : Cond.codeWith m_La_move method_7_code 4 (Option.some FieldType.int) [(0, 9, 12, 22)] ∈ gw := gw_t 312 (by decide +kernel) (by decide +kernel)
theorem tw_313 : Cond.methodLink "ExactDigitsLaw" 28 m_Ed_move ∈ gw := gw_t 313 (by decide +kernel) (by decide +kernel)
theorem tw_314 : Cond.instanceMethod m_Ed_move ∈ gw := gw_t 314 (by decide +kernel) (by decide +kernel)
theorem tw_315 : Cond.selects "ExactDigits" m_Ed_move m_Ed_move ∈ gw := gw_t 315 (by decide +kernel) (by decide +kernel)
theorem tw_316 : Cond.code m_Ed_move prog_1_method_7_code 3 (Option.some FieldType.int) ∈ gw := gw_t 316 (by decide +kernel) (by decide +kernel)
theorem tw_317 : Cond.methodLink "ExactDigitsLaw" 75 m_La_round ∈ gw := gw_t 317 (by decide +kernel) (by decide +kernel)
theorem tw_318 : Cond.static m_La_round ∈ gw := gw_t 318 (by decide +kernel) (by decide +kernel)
theorem tw_319 : Cond.codeWith m_La_round method_8_code 4 (Option.some FieldType.int) [(0, 9, 12, 22)] ∈ gw := gw_t 319 (by decide +kernel) (by decide +kernel)
theorem tw_320 : Cond.methodLink "ExactDigitsLaw" 31 m_Ed_round ∈ gw := gw_t 320 (by decide +kernel) (by decide +kernel)
theorem tw_321 : Cond.instanceMethod m_Ed_round ∈ gw := gw_t 321 (by decide +kernel) (by decide +kernel)
theorem tw_322 : Cond.selects "ExactDigits" m_Ed_round m_Ed_round ∈ gw := gw_t 322 (by decide +kernel) (by decide +kernel)
theorem tw_323 : Cond.code m_Ed_round prog_1_method_8_code 3 (Option.some FieldType.int) ∈ gw := gw_t 323 (by decide +kernel) (by decide +kernel)
theorem tw_324 : Cond.methodLink "ExactDigits" 73 m_Ed_keepFirstAndOneMore ∈ gw := gw_t 324 (by decide +kernel) (by decide +kernel)
theorem tw_326 : Cond.instanceMethod m_Ed_keepFirstAndOneMore ∈ gw := gw_t 326 (by decide +kernel) (by decide +kernel)
theorem tw_327 : Cond.code m_Ed_keepFirstAndOneMore prog_1_method_22_code 3 (none) ∈ gw := gw_t 327 (by decide +kernel) (by decide +kernel)
theorem tw_328 : Cond.methodLink "ExactDigits" 76 m_Ed_keepFirst ∈ gw := gw_t 328 (by decide +kernel) (by decide +kernel)
theorem tw_330 : Cond.instanceMethod m_Ed_keepFirst ∈ gw := gw_t 330 (by decide +kernel) (by decide +kernel)
theorem tw_331 : Cond.code m_Ed_keepFirst prog_1_method_21_code 2 (none) ∈ gw := gw_t 331 (by decide +kernel) (by decide +kernel)
theorem tw_332 : Cond.methodLink "ExactDigits" 131 m_Ma_max ∈ gw := gw_t 332 (by decide +kernel) (by decide +kernel)
theorem tw_333 : Cond.methodLink "ExactDigitsLaw" 78 m_La_cut ∈ gw := gw_t 333 (by decide +kernel) (by decide +kernel)
theorem tw_334 : Cond.static m_La_cut ∈ gw := gw_t 334 (by decide +kernel) (by decide +kernel)
theorem tw_335 : Cond.codeWith m_La_cut method_9_code 4 (Option.some FieldType.int) [(0, 9, 12, 22)] ∈ gw := gw_t 335 (by decide +kernel) (by decide +kernel)
theorem tw_336 : Cond.methodLink "ExactDigitsLaw" 34 m_Ed_cut ∈ gw := gw_t 336 (by decide +kernel) (by decide +kernel)
theorem tw_337 : Cond.instanceMethod m_Ed_cut ∈ gw := gw_t 337 (by decide +kernel) (by decide +kernel)
theorem tw_338 : Cond.selects "ExactDigits" m_Ed_cut m_Ed_cut ∈ gw := gw_t 338 (by decide +kernel) (by decide +kernel)
theorem tw_339 : Cond.code m_Ed_cut prog_1_method_9_code 2 (Option.some FieldType.int) ∈ gw := gw_t 339 (by decide +kernel) (by decide +kernel)
theorem tw_340 : Cond.methodLink "ExactDigitsLaw" 85 m_La_told ∈ gw := gw_t 340 (by decide +kernel) (by decide +kernel)
theorem tw_341 : Cond.static m_La_told ∈ gw := gw_t 341 (by decide +kernel) (by decide +kernel)
theorem tw_342 : Cond.codeWith m_La_told method_10_code 4 (Option.some FieldType.int) [(0, 9, 12, 22)] ∈ gw := gw_t 342 (by decide +kernel) (by decide +kernel)
theorem tw_343 : Cond.methodLink "ExactDigitsLaw" 37 m_Ed_told ∈ gw := gw_t 343 (by decide +kernel) (by decide +kernel)
theorem tw_344 : Cond.instanceMethod m_Ed_told ∈ gw := gw_t 344 (by decide +kernel) (by decide +kernel)
theorem tw_345 : Cond.selects "ExactDigits" m_Ed_told m_Ed_told ∈ gw := gw_t 345 (by decide +kernel) (by decide +kernel)
theorem tw_346 : Cond.code m_Ed_told prog_1_method_11_code 2 (Option.some FieldType.int) ∈ gw := gw_t 346 (by decide +kernel) (by decide +kernel)
theorem tw_347 : Cond.classLink "ExactDigitsLaw" 41 "ExactDigitsModel" ∈ gw := gw_t 347 (by decide +kernel) (by decide +kernel)
theorem tw_348 : Cond.instantiable "ExactDigitsModel" 10 ∈ gw := gw_t 348 (by decide +kernel) (by decide +kernel)
theorem tw_349 : Cond.methodLink "ExactDigitsLaw" 43 m_Mo_init ∈ gw := gw_t 349 (by decide +kernel) (by decide +kernel)
theorem tw_350 : Cond.instanceMethod m_Mo_init ∈ gw := gw_t 350 (by decide +kernel) (by decide +kernel)
theorem tw_351 : Cond.code m_Mo_init prog_5_method_1_code 1 (none) ∈ gw := gw_t 351 (by decide +kernel) (by decide +kernel)
theorem tw_352 : Cond.methodLink "ExactDigitsModel" 1 m_Ob_init ∈ gw := gw_t 352 (by decide +kernel) (by decide +kernel)
theorem tw_353 : Cond.classLink "ExactDigitsModel" 7 "ExactDigitsModel$Row" ∈ gw := gw_t 353 (by decide +kernel) (by decide +kernel)
theorem tw_354 : Cond.instantiable "ExactDigitsModel$Row" 3 ∈ gw := gw_t 354 (by decide +kernel) (by decide +kernel)
theorem tw_356 : Cond.instanceMethod m_Ro_init ∈ gw := gw_t 356 (by decide +kernel) (by decide +kernel)
theorem tw_357 : Cond.code m_Ro_init prog_7_method_1_code 1 (none) ∈ gw := gw_t 357 (by decide +kernel) (by decide +kernel)
theorem tw_358 : Cond.methodLink "ExactDigitsModel$Row" 3 m_Ob_init ∈ gw := gw_t 358 (by decide +kernel) (by decide +kernel)
theorem tw_359 : Cond.fieldLink "ExactDigitsModel$Row" 9 "ExactDigitsModel$Row" "d" "[B" ∈ gw := gw_t 359 (by decide +kernel) (by decide +kernel)
theorem tw_360 : Cond.fieldLink "ExactDigitsModel" 90 "ExactDigitsModel$Row" "d" "[B" ∈ gw := gw_t 360 (by decide +kernel) (by decide +kernel)
theorem tw_361 : Cond.fieldLink "ExactDigitsModel$Row" 15 "ExactDigitsModel$Row" "n" "I" ∈ gw := gw_t 361 (by decide +kernel) (by decide +kernel)
theorem tw_362 : Cond.fieldLink "ExactDigitsModel" 36 "ExactDigitsModel$Row" "n" "I" ∈ gw := gw_t 362 (by decide +kernel) (by decide +kernel)
theorem tw_363 : Cond.fieldLink "ExactDigitsModel$Row" 19 "ExactDigitsModel$Row" "point" "I" ∈ gw := gw_t 363 (by decide +kernel) (by decide +kernel)
theorem tw_364 : Cond.fieldLink "ExactDigitsModel" 101 "ExactDigitsModel$Row" "point" "I" ∈ gw := gw_t 364 (by decide +kernel) (by decide +kernel)
theorem tw_365 : Cond.laysFinal "ExactDigitsModel$Row" "ExactDigitsModel$Row" "d" "[B" ∈ gw := gw_t 365 (by decide +kernel) (by decide +kernel)
theorem tw_366 : Cond.soleField "ExactDigitsModel$Row" "d" ∈ gw := gw_t 366 (by decide +kernel) (by decide +kernel)
theorem tw_367 : Cond.lays "ExactDigitsModel$Row" "ExactDigitsModel$Row" "n" "I" ∈ gw := gw_t 367 (by decide +kernel) (by decide +kernel)
theorem tw_368 : Cond.soleField "ExactDigitsModel$Row" "n" ∈ gw := gw_t 368 (by decide +kernel) (by decide +kernel)
theorem tw_369 : Cond.lays "ExactDigitsModel$Row" "ExactDigitsModel$Row" "point" "I" ∈ gw := gw_t 369 (by decide +kernel) (by decide +kernel)
theorem tw_370 : Cond.soleField "ExactDigitsModel$Row" "point" ∈ gw := gw_t 370 (by decide +kernel) (by decide +kernel)
theorem tw_371 : Cond.superclass "ExactDigitsModel$Row" "java/lang/Object" ∈ gw := gw_t 371 (by decide +kernel) (by decide +kernel)
theorem tw_372 : Cond.classLink "ExactDigitsModel" 25 "ExactDigitsModel$Decimal" ∈ gw := gw_t 372 (by decide +kernel) (by decide +kernel)
theorem tw_373 : Cond.instantiable "ExactDigitsModel$Decimal" 3 ∈ gw := gw_t 373 (by decide +kernel) (by decide +kernel)
theorem tw_375 : Cond.instanceMethod m_De_init ∈ gw := gw_t 375 (by decide +kernel) (by decide +kernel)
theorem tw_376 : Cond.code m_De_init prog_6_method_1_code 1 (none) ∈ gw := gw_t 376 (by decide +kernel) (by decide +kernel)
theorem tw_377 : Cond.methodLink "ExactDigitsModel$Decimal" 3 m_Ob_init ∈ gw := gw_t 377 (by decide +kernel) (by decide +kernel)
theorem tw_378 : Cond.fieldLink "ExactDigitsModel$Decimal" 9 "ExactDigitsModel$Decimal" "w" "[I" ∈ gw := gw_t 378 (by decide +kernel) (by decide +kernel)
theorem tw_379 : Cond.fieldLink "ExactDigitsModel" 153 "ExactDigitsModel$Decimal" "w" "[I" ∈ gw := gw_t 379 (by decide +kernel) (by decide +kernel)
theorem tw_380 : Cond.fieldLink "ExactDigitsModel$Decimal" 15 "ExactDigitsModel$Decimal" "from" "I" ∈ gw := gw_t 380 (by decide +kernel) (by decide +kernel)
theorem tw_381 : Cond.fieldLink "ExactDigitsModel" 123 "ExactDigitsModel$Decimal" "from" "I" ∈ gw := gw_t 381 (by decide +kernel) (by decide +kernel)
theorem tw_382 : Cond.fieldLink "ExactDigitsModel$Decimal" 19 "ExactDigitsModel$Decimal" "to" "I" ∈ gw := gw_t 382 (by decide +kernel) (by decide +kernel)
theorem tw_383 : Cond.laysFinal "ExactDigitsModel$Decimal" "ExactDigitsModel$Decimal" "w" "[I" ∈ gw := gw_t 383 (by decide +kernel) (by decide +kernel)
theorem tw_384 : Cond.soleField "ExactDigitsModel$Decimal" "w" ∈ gw := gw_t 384 (by decide +kernel) (by decide +kernel)
theorem tw_385 : Cond.lays "ExactDigitsModel$Decimal" "ExactDigitsModel$Decimal" "from" "I" ∈ gw := gw_t 385 (by decide +kernel) (by decide +kernel)
theorem tw_386 : Cond.soleField "ExactDigitsModel$Decimal" "from" ∈ gw := gw_t 386 (by decide +kernel) (by decide +kernel)
theorem tw_387 : Cond.lays "ExactDigitsModel$Decimal" "ExactDigitsModel$Decimal" "to" "I" ∈ gw := gw_t 387 (by decide +kernel) (by decide +kernel)
theorem tw_388 : Cond.soleField "ExactDigitsModel$Decimal" "to" ∈ gw := gw_t 388 (by decide +kernel) (by decide +kernel)
theorem tw_389 : Cond.superclass "ExactDigitsModel$Decimal" "java/lang/Object" ∈ gw := gw_t 389 (by decide +kernel) (by decide +kernel)
theorem tw_390 : Cond.fieldLink "ExactDigitsModel" 10 "ExactDigitsModel" "number" "LExactDigitsModel$Row;" ∈ gw := gw_t 390 (by decide +kernel) (by decide +kernel)
theorem tw_391 : Cond.fieldLink "ExactDigitsModel" 16 "ExactDigitsModel" "under" "LExactDigitsModel$Row;" ∈ gw := gw_t 391 (by decide +kernel) (by decide +kernel)
theorem tw_392 : Cond.fieldLink "ExactDigitsModel" 19 "ExactDigitsModel" "over" "LExactDigitsModel$Row;" ∈ gw := gw_t 392 (by decide +kernel) (by decide +kernel)
theorem tw_393 : Cond.fieldLink "ExactDigitsModel" 22 "ExactDigitsModel" "exact" "LExactDigitsModel$Row;" ∈ gw := gw_t 393 (by decide +kernel) (by decide +kernel)
theorem tw_394 : Cond.fieldLink "ExactDigitsModel" 28 "ExactDigitsModel" "decimal" "LExactDigitsModel$Decimal;" ∈ gw := gw_t 394 (by decide +kernel) (by decide +kernel)
theorem tw_395 : Cond.fieldLink "ExactDigitsModel" 39 "ExactDigitsModel" "isLess" "Z" ∈ gw := gw_t 395 (by decide +kernel) (by decide +kernel)
theorem tw_396 : Cond.fieldLink "ExactDigitsModel" 32 "ExactDigitsModel" "thrown" "I" ∈ gw := gw_t 396 (by decide +kernel) (by decide +kernel)
theorem tw_397 : Cond.fieldLink "ExactDigitsModel" 50 "ExactDigitsModel" "mantissa" "J" ∈ gw := gw_t 397 (by decide +kernel) (by decide +kernel)
theorem tw_398 : Cond.fieldLink "ExactDigitsModel" 60 "ExactDigitsModel" "power" "I" ∈ gw := gw_t 398 (by decide +kernel) (by decide +kernel)
theorem tw_399 : Cond.fieldLink "ExactDigitsModel" 63 "ExactDigitsModel" "isCloser" "Z" ∈ gw := gw_t 399 (by decide +kernel) (by decide +kernel)
theorem tw_400 : Cond.laysFinal "ExactDigitsModel" "ExactDigitsModel" "number" "LExactDigitsModel$Row;" ∈ gw := gw_t 400 (by decide +kernel) (by decide +kernel)
theorem tw_401 : Cond.soleField "ExactDigitsModel" "number" ∈ gw := gw_t 401 (by decide +kernel) (by decide +kernel)
theorem tw_402 : Cond.laysFinal "ExactDigitsModel" "ExactDigitsModel" "under" "LExactDigitsModel$Row;" ∈ gw := gw_t 402 (by decide +kernel) (by decide +kernel)
theorem tw_403 : Cond.soleField "ExactDigitsModel" "under" ∈ gw := gw_t 403 (by decide +kernel) (by decide +kernel)
theorem tw_404 : Cond.laysFinal "ExactDigitsModel" "ExactDigitsModel" "over" "LExactDigitsModel$Row;" ∈ gw := gw_t 404 (by decide +kernel) (by decide +kernel)
theorem tw_405 : Cond.soleField "ExactDigitsModel" "over" ∈ gw := gw_t 405 (by decide +kernel) (by decide +kernel)
theorem tw_406 : Cond.laysFinal "ExactDigitsModel" "ExactDigitsModel" "exact" "LExactDigitsModel$Row;" ∈ gw := gw_t 406 (by decide +kernel) (by decide +kernel)
theorem tw_407 : Cond.soleField "ExactDigitsModel" "exact" ∈ gw := gw_t 407 (by decide +kernel) (by decide +kernel)
theorem tw_408 : Cond.laysFinal "ExactDigitsModel" "ExactDigitsModel" "decimal" "LExactDigitsModel$Decimal;" ∈ gw := gw_t 408 (by decide +kernel) (by decide +kernel)
theorem tw_409 : Cond.soleField "ExactDigitsModel" "decimal" ∈ gw := gw_t 409 (by decide +kernel) (by decide +kernel)
theorem tw_410 : Cond.lays "ExactDigitsModel" "ExactDigitsModel" "isLess" "Z" ∈ gw := gw_t 410 (by decide +kernel) (by decide +kernel)
theorem tw_411 : Cond.soleField "ExactDigitsModel" "isLess" ∈ gw := gw_t 411 (by decide +kernel) (by decide +kernel)
theorem tw_412 : Cond.lays "ExactDigitsModel" "ExactDigitsModel" "thrown" "I" ∈ gw := gw_t 412 (by decide +kernel) (by decide +kernel)
theorem tw_413 : Cond.soleField "ExactDigitsModel" "thrown" ∈ gw := gw_t 413 (by decide +kernel) (by decide +kernel)
theorem tw_414 : Cond.lays "ExactDigitsModel" "ExactDigitsModel" "mantissa" "J" ∈ gw := gw_t 414 (by decide +kernel) (by decide +kernel)
theorem tw_415 : Cond.soleField "ExactDigitsModel" "mantissa" ∈ gw := gw_t 415 (by decide +kernel) (by decide +kernel)
theorem tw_416 : Cond.lays "ExactDigitsModel" "ExactDigitsModel" "power" "I" ∈ gw := gw_t 416 (by decide +kernel) (by decide +kernel)
theorem tw_417 : Cond.soleField "ExactDigitsModel" "power" ∈ gw := gw_t 417 (by decide +kernel) (by decide +kernel)
theorem tw_418 : Cond.lays "ExactDigitsModel" "ExactDigitsModel" "isCloser" "Z" ∈ gw := gw_t 418 (by decide +kernel) (by decide +kernel)
theorem tw_419 : Cond.soleField "ExactDigitsModel" "isCloser" ∈ gw := gw_t 419 (by decide +kernel) (by decide +kernel)
theorem tw_420 : Cond.superclass "ExactDigitsModel" "java/lang/Object" ∈ gw := gw_t 420 (by decide +kernel) (by decide +kernel)
theorem tw_421 : Cond.methodLink "ExactDigitsLaw" 57 m_Mo_thrown ∈ gw := gw_t 421 (by decide +kernel) (by decide +kernel)
theorem tw_422 : Cond.instanceMethod m_Mo_thrown ∈ gw := gw_t 422 (by decide +kernel) (by decide +kernel)
theorem tw_423 : Cond.selects "ExactDigitsModel" m_Mo_thrown m_Mo_thrown ∈ gw := gw_t 423 (by decide +kernel) (by decide +kernel)
theorem tw_424 : Cond.code m_Mo_thrown prog_5_method_2_code 1 (Option.some FieldType.int) ∈ gw := gw_t 424 (by decide +kernel) (by decide +kernel)
theorem tw_425 : Cond.methodLink "ExactDigitsLaw" 50 m_Mo_whole ∈ gw := gw_t 425 (by decide +kernel) (by decide +kernel)
theorem tw_426 : Cond.instanceMethod m_Mo_whole ∈ gw := gw_t 426 (by decide +kernel) (by decide +kernel)
theorem tw_427 : Cond.selects "ExactDigitsModel" m_Mo_whole m_Mo_whole ∈ gw := gw_t 427 (by decide +kernel) (by decide +kernel)
theorem tw_428 : Cond.code m_Mo_whole prog_5_method_4_code 3 (Option.some FieldType.int) ∈ gw := gw_t 428 (by decide +kernel) (by decide +kernel)
theorem tw_429 : Cond.methodLink "ExactDigitsModel" 46 m_Ro_set ∈ gw := gw_t 429 (by decide +kernel) (by decide +kernel)
theorem tw_430 : Cond.instanceMethod m_Ro_set ∈ gw := gw_t 430 (by decide +kernel) (by decide +kernel)
theorem tw_431 : Cond.selects "ExactDigitsModel$Row" m_Ro_set m_Ro_set ∈ gw := gw_t 431 (by decide +kernel) (by decide +kernel)
theorem tw_432 : Cond.code m_Ro_set prog_7_method_2_code 7 (none) ∈ gw := gw_t 432 (by decide +kernel) (by decide +kernel)
theorem tw_433 : Cond.constantLong "ExactDigitsModel$Row" 22 (10 : Int64) ∈ gw := gw_t 433 (by decide +kernel) (by decide +kernel)
theorem tw_434 : Cond.methodLink "ExactDigitsModel$Row" 24 m_Lo_divideUnsigned ∈ gw := gw_t 434 (by decide +kernel) (by decide +kernel)
theorem tw_435 : Cond.static m_Lo_divideUnsigned ∈ gw := gw_t 435 (by decide +kernel) (by decide +kernel)
theorem tw_436 : Cond.code m_Lo_divideUnsigned prog_13_method_44_code 8 (Option.some FieldType.long) ∈ gw := gw_t 436 (by decide +kernel) (by decide +kernel)
theorem tw_437 : Cond.constantLong "java/lang/Long" 306 (-1 : Int64) ∈ gw := gw_t 437 (by decide +kernel) (by decide +kernel)
theorem tw_438 : Cond.methodLink "ExactDigitsModel$Row" 30 ⟨"java/lang/System", "arraycopy", "(Ljava/lang/Object;ILjava/lang/Object;II)V"⟩ ∈ gw := gw_t 438 (by decide +kernel) (by decide +kernel)
theorem tw_439 : Cond.static ⟨"java/lang/System", "arraycopy", "(Ljava/lang/Object;ILjava/lang/Object;II)V"⟩ ∈ gw := gw_t 439 (by decide +kernel) (by decide +kernel)
theorem tw_440 : Cond.native ⟨"java/lang/System", "arraycopy", "(Ljava/lang/Object;ILjava/lang/Object;II)V"⟩ ∈ gw := gw_t 440 (by decide +kernel) (by decide +kernel)
theorem tw_441 : Cond.methodLink "ExactDigitsModel$Row" 36 m_Ro_trim ∈ gw := gw_t 441 (by decide +kernel) (by decide +kernel)
theorem tw_442 : Cond.instanceMethod m_Ro_trim ∈ gw := gw_t 442 (by decide +kernel) (by decide +kernel)
theorem tw_443 : Cond.selects "ExactDigitsModel$Row" m_Ro_trim m_Ro_trim ∈ gw := gw_t 443 (by decide +kernel) (by decide +kernel)
theorem tw_444 : Cond.code m_Ro_trim prog_7_method_3_code 2 (none) ∈ gw := gw_t 444 (by decide +kernel) (by decide +kernel)
theorem tw_445 : Cond.methodLink "ExactDigitsLaw" 56 m_Mo_real ∈ gw := gw_t 445 (by decide +kernel) (by decide +kernel)
theorem tw_446 : Cond.instanceMethod m_Mo_real ∈ gw := gw_t 446 (by decide +kernel) (by decide +kernel)
theorem tw_447 : Cond.selects "ExactDigitsModel" m_Mo_real m_Mo_real ∈ gw := gw_t 447 (by decide +kernel) (by decide +kernel)
theorem tw_448 : Cond.code m_Mo_real prog_5_method_6_code 4 (Option.some FieldType.int) ∈ gw := gw_t 448 (by decide +kernel) (by decide +kernel)
theorem tw_449 : Cond.methodLink "ExactDigitsModel" 66 m_Mo_isNumber ∈ gw := gw_t 449 (by decide +kernel) (by decide +kernel)
theorem tw_451 : Cond.instanceMethod m_Mo_isNumber ∈ gw := gw_t 451 (by decide +kernel) (by decide +kernel)
theorem tw_452 : Cond.code m_Mo_isNumber prog_5_method_5_code 8 (Option.some FieldType.boolean) ∈ gw := gw_t 452 (by decide +kernel) (by decide +kernel)
theorem tw_453 : Cond.methodLink "ExactDigitsModel" 54 m_Ma_max ∈ gw := gw_t 453 (by decide +kernel) (by decide +kernel)
theorem tw_454 : Cond.methodLink "ExactDigitsModel" 70 m_Ro_shift ∈ gw := gw_t 454 (by decide +kernel) (by decide +kernel)
theorem tw_455 : Cond.instanceMethod m_Ro_shift ∈ gw := gw_t 455 (by decide +kernel) (by decide +kernel)
theorem tw_456 : Cond.selects "ExactDigitsModel$Row" m_Ro_shift m_Ro_shift ∈ gw := gw_t 456 (by decide +kernel) (by decide +kernel)
theorem tw_457 : Cond.code m_Ro_shift prog_7_method_5_code 3 (none) ∈ gw := gw_t 457 (by decide +kernel) (by decide +kernel)
theorem tw_458 : Cond.methodLink "ExactDigitsModel$Row" 39 m_Ro_times ∈ gw := gw_t 458 (by decide +kernel) (by decide +kernel)
theorem tw_459 : Cond.instanceMethod m_Ro_times ∈ gw := gw_t 459 (by decide +kernel) (by decide +kernel)
theorem tw_460 : Cond.selects "ExactDigitsModel$Row" m_Ro_times m_Ro_times ∈ gw := gw_t 460 (by decide +kernel) (by decide +kernel)
theorem tw_461 : Cond.code m_Ro_times prog_7_method_4_code 7 (none) ∈ gw := gw_t 461 (by decide +kernel) (by decide +kernel)
theorem tw_462 : Cond.methodLink "ExactDigitsLaw" 63 m_Mo_shortest ∈ gw := gw_t 462 (by decide +kernel) (by decide +kernel)
theorem tw_463 : Cond.instanceMethod m_Mo_shortest ∈ gw := gw_t 463 (by decide +kernel) (by decide +kernel)
theorem tw_464 : Cond.selects "ExactDigitsModel" m_Mo_shortest m_Mo_shortest ∈ gw := gw_t 464 (by decide +kernel) (by decide +kernel)
theorem tw_465 : Cond.code m_Mo_shortest prog_5_method_7_code 11 (Option.some FieldType.int) ∈ gw := gw_t 465 (by decide +kernel) (by decide +kernel)
theorem tw_466 : Cond.methodLink "ExactDigitsModel" 74 m_Ro_copy ∈ gw := gw_t 466 (by decide +kernel) (by decide +kernel)
theorem tw_467 : Cond.instanceMethod m_Ro_copy ∈ gw := gw_t 467 (by decide +kernel) (by decide +kernel)
theorem tw_468 : Cond.selects "ExactDigitsModel$Row" m_Ro_copy m_Ro_copy ∈ gw := gw_t 468 (by decide +kernel) (by decide +kernel)
theorem tw_469 : Cond.code m_Ro_copy prog_7_method_6_code 2 (none) ∈ gw := gw_t 469 (by decide +kernel) (by decide +kernel)
theorem tw_470 : Cond.constantLong "ExactDigitsModel" 78 (2 : Int64) ∈ gw := gw_t 470 (by decide +kernel) (by decide +kernel)
theorem tw_471 : Cond.constantLong "ExactDigitsModel" 80 (4 : Int64) ∈ gw := gw_t 471 (by decide +kernel) (by decide +kernel)
theorem tw_472 : Cond.methodLink "ExactDigitsModel" 82 m_Mo_first ∈ gw := gw_t 472 (by decide +kernel) (by decide +kernel)
theorem tw_474 : Cond.instanceMethod m_Mo_first ∈ gw := gw_t 474 (by decide +kernel) (by decide +kernel)
theorem tw_475 : Cond.code m_Mo_first prog_5_method_8_code 3 (none) ∈ gw := gw_t 475 (by decide +kernel) (by decide +kernel)
theorem tw_476 : Cond.methodLink "ExactDigitsModel" 94 m_Ro_raise ∈ gw := gw_t 476 (by decide +kernel) (by decide +kernel)
theorem tw_477 : Cond.instanceMethod m_Ro_raise ∈ gw := gw_t 477 (by decide +kernel) (by decide +kernel)
theorem tw_478 : Cond.selects "ExactDigitsModel$Row" m_Ro_raise m_Ro_raise ∈ gw := gw_t 478 (by decide +kernel) (by decide +kernel)
theorem tw_479 : Cond.code m_Ro_raise prog_7_method_9_code 2 (none) ∈ gw := gw_t 479 (by decide +kernel) (by decide +kernel)
theorem tw_480 : Cond.methodLink "ExactDigitsModel" 43 m_Ro_trim ∈ gw := gw_t 480 (by decide +kernel) (by decide +kernel)
theorem tw_481 : Cond.methodLink "ExactDigitsModel" 86 m_Mo_isIn ∈ gw := gw_t 481 (by decide +kernel) (by decide +kernel)
theorem tw_483 : Cond.instanceMethod m_Mo_isIn ∈ gw := gw_t 483 (by decide +kernel) (by decide +kernel)
theorem tw_484 : Cond.code m_Mo_isIn prog_5_method_9_code 4 (Option.some FieldType.boolean) ∈ gw := gw_t 484 (by decide +kernel) (by decide +kernel)
theorem tw_485 : Cond.methodLink "ExactDigitsModel" 97 m_Ro_compare ∈ gw := gw_t 485 (by decide +kernel) (by decide +kernel)
theorem tw_486 : Cond.instanceMethod m_Ro_compare ∈ gw := gw_t 486 (by decide +kernel) (by decide +kernel)
theorem tw_487 : Cond.selects "ExactDigitsModel$Row" m_Ro_compare m_Ro_compare ∈ gw := gw_t 487 (by decide +kernel) (by decide +kernel)
theorem tw_488 : Cond.code m_Ro_compare prog_7_method_8_code 4 (Option.some FieldType.int) ∈ gw := gw_t 488 (by decide +kernel) (by decide +kernel)
theorem tw_489 : Cond.methodLink "ExactDigitsModel$Row" 43 m_Ma_max ∈ gw := gw_t 489 (by decide +kernel) (by decide +kernel)
theorem tw_490 : Cond.methodLink "ExactDigitsModel$Row" 49 m_Ma_min ∈ gw := gw_t 490 (by decide +kernel) (by decide +kernel)
theorem tw_491 : Cond.methodLink "ExactDigitsModel$Row" 52 m_Ro_at ∈ gw := gw_t 491 (by decide +kernel) (by decide +kernel)
theorem tw_492 : Cond.instanceMethod m_Ro_at ∈ gw := gw_t 492 (by decide +kernel) (by decide +kernel)
theorem tw_493 : Cond.selects "ExactDigitsModel$Row" m_Ro_at m_Ro_at ∈ gw := gw_t 493 (by decide +kernel) (by decide +kernel)
theorem tw_494 : Cond.code m_Ro_at prog_7_method_7_code 3 (Option.some FieldType.int) ∈ gw := gw_t 494 (by decide +kernel) (by decide +kernel)
theorem tw_495 : Cond.methodLink "ExactDigitsLaw" 67 m_Mo_put ∈ gw := gw_t 495 (by decide +kernel) (by decide +kernel)
theorem tw_496 : Cond.instanceMethod m_Mo_put ∈ gw := gw_t 496 (by decide +kernel) (by decide +kernel)
theorem tw_497 : Cond.selects "ExactDigitsModel" m_Mo_put m_Mo_put ∈ gw := gw_t 497 (by decide +kernel) (by decide +kernel)
theorem tw_498 : Cond.code m_Mo_put prog_5_method_10_code 6 (Option.some FieldType.int) ∈ gw := gw_t 498 (by decide +kernel) (by decide +kernel)
theorem tw_499 : Cond.methodLink "ExactDigitsLaw" 71 m_Mo_shift ∈ gw := gw_t 499 (by decide +kernel) (by decide +kernel)
theorem tw_500 : Cond.instanceMethod m_Mo_shift ∈ gw := gw_t 500 (by decide +kernel) (by decide +kernel)
theorem tw_501 : Cond.selects "ExactDigitsModel" m_Mo_shift m_Mo_shift ∈ gw := gw_t 501 (by decide +kernel) (by decide +kernel)
theorem tw_502 : Cond.code m_Mo_shift prog_5_method_11_code 2 (Option.some FieldType.int) ∈ gw := gw_t 502 (by decide +kernel) (by decide +kernel)
theorem tw_503 : Cond.methodLink "ExactDigitsModel" 104 m_Mo_kept ∈ gw := gw_t 503 (by decide +kernel) (by decide +kernel)
theorem tw_505 : Cond.instanceMethod m_Mo_kept ∈ gw := gw_t 505 (by decide +kernel) (by decide +kernel)
theorem tw_506 : Cond.code m_Mo_kept prog_5_method_3_code 1 (Option.some FieldType.int) ∈ gw := gw_t 506 (by decide +kernel) (by decide +kernel)
theorem tw_507 : Cond.methodLink "ExactDigitsLaw" 74 m_Mo_move ∈ gw := gw_t 507 (by decide +kernel) (by decide +kernel)
theorem tw_508 : Cond.instanceMethod m_Mo_move ∈ gw := gw_t 508 (by decide +kernel) (by decide +kernel)
theorem tw_509 : Cond.selects "ExactDigitsModel" m_Mo_move m_Mo_move ∈ gw := gw_t 509 (by decide +kernel) (by decide +kernel)
theorem tw_510 : Cond.code m_Mo_move prog_5_method_12_code 4 (Option.some FieldType.int) ∈ gw := gw_t 510 (by decide +kernel) (by decide +kernel)
theorem tw_511 : Cond.methodLink "ExactDigitsLaw" 77 m_Mo_round ∈ gw := gw_t 511 (by decide +kernel) (by decide +kernel)
theorem tw_512 : Cond.instanceMethod m_Mo_round ∈ gw := gw_t 512 (by decide +kernel) (by decide +kernel)
theorem tw_513 : Cond.selects "ExactDigitsModel" m_Mo_round m_Mo_round ∈ gw := gw_t 513 (by decide +kernel) (by decide +kernel)
theorem tw_514 : Cond.code m_Mo_round prog_5_method_14_code 2 (Option.some FieldType.int) ∈ gw := gw_t 514 (by decide +kernel) (by decide +kernel)
theorem tw_515 : Cond.methodLink "ExactDigitsModel" 108 m_Mo_ended ∈ gw := gw_t 515 (by decide +kernel) (by decide +kernel)
theorem tw_517 : Cond.instanceMethod m_Mo_ended ∈ gw := gw_t 517 (by decide +kernel) (by decide +kernel)
theorem tw_518 : Cond.code m_Mo_ended prog_5_method_13_code 5 (Option.some FieldType.int) ∈ gw := gw_t 518 (by decide +kernel) (by decide +kernel)
theorem tw_519 : Cond.methodLink "ExactDigitsLaw" 80 m_Mo_cut ∈ gw := gw_t 519 (by decide +kernel) (by decide +kernel)
theorem tw_520 : Cond.instanceMethod m_Mo_cut ∈ gw := gw_t 520 (by decide +kernel) (by decide +kernel)
theorem tw_521 : Cond.selects "ExactDigitsModel" m_Mo_cut m_Mo_cut ∈ gw := gw_t 521 (by decide +kernel) (by decide +kernel)
theorem tw_522 : Cond.code m_Mo_cut prog_5_method_15_code 2 (Option.some FieldType.int) ∈ gw := gw_t 522 (by decide +kernel) (by decide +kernel)
theorem tw_523 : Cond.methodLink "ExactDigitsLaw" 84 m_Mo_digit ∈ gw := gw_t 523 (by decide +kernel) (by decide +kernel)
theorem tw_524 : Cond.instanceMethod m_Mo_digit ∈ gw := gw_t 524 (by decide +kernel) (by decide +kernel)
theorem tw_525 : Cond.selects "ExactDigitsModel" m_Mo_digit m_Mo_digit ∈ gw := gw_t 525 (by decide +kernel) (by decide +kernel)
theorem tw_526 : Cond.code m_Mo_digit prog_5_method_16_code 4 (Option.some FieldType.int) ∈ gw := gw_t 526 (by decide +kernel) (by decide +kernel)
theorem tw_527 : Cond.methodLink "ExactDigitsLaw" 87 m_Mo_told ∈ gw := gw_t 527 (by decide +kernel) (by decide +kernel)
theorem tw_528 : Cond.instanceMethod m_Mo_told ∈ gw := gw_t 528 (by decide +kernel) (by decide +kernel)
theorem tw_529 : Cond.selects "ExactDigitsModel" m_Mo_told m_Mo_told ∈ gw := gw_t 529 (by decide +kernel) (by decide +kernel)
theorem tw_530 : Cond.code m_Mo_told prog_5_method_17_code 2 (Option.some FieldType.int) ∈ gw := gw_t 530 (by decide +kernel) (by decide +kernel)
theorem tw_531 : Cond.methodLink "ExactDigitsLaw" 92 m_Mo_nearest ∈ gw := gw_t 531 (by decide +kernel) (by decide +kernel)
theorem tw_532 : Cond.instanceMethod m_Mo_nearest ∈ gw := gw_t 532 (by decide +kernel) (by decide +kernel)
theorem tw_533 : Cond.selects "ExactDigitsModel" m_Mo_nearest m_Mo_nearest ∈ gw := gw_t 533 (by decide +kernel) (by decide +kernel)
theorem tw_534 : Cond.code m_Mo_nearest prog_5_method_18_code 12 (Option.some FieldType.long) ∈ gw := gw_t 534 (by decide +kernel) (by decide +kernel)
theorem tw_535 : Cond.constantLong "ExactDigitsModel" 112 (2139095040 : Int64) ∈ gw := gw_t 535 (by decide +kernel) (by decide +kernel)
theorem tw_536 : Cond.constantLong "ExactDigitsModel" 114 (9218868437227405312 : Int64) ∈ gw := gw_t 536 (by decide +kernel) (by decide +kernel)
theorem tw_537 : Cond.methodLink "ExactDigitsModel" 116 m_De_clear ∈ gw := gw_t 537 (by decide +kernel) (by decide +kernel)
theorem tw_538 : Cond.instanceMethod m_De_clear ∈ gw := gw_t 538 (by decide +kernel) (by decide +kernel)
theorem tw_539 : Cond.selects "ExactDigitsModel$Decimal" m_De_clear m_De_clear ∈ gw := gw_t 539 (by decide +kernel) (by decide +kernel)
theorem tw_540 : Cond.code m_De_clear prog_6_method_2_code 2 (none) ∈ gw := gw_t 540 (by decide +kernel) (by decide +kernel)
theorem tw_541 : Cond.methodLink "ExactDigitsModel" 119 m_De_add ∈ gw := gw_t 541 (by decide +kernel) (by decide +kernel)
theorem tw_542 : Cond.instanceMethod m_De_add ∈ gw := gw_t 542 (by decide +kernel) (by decide +kernel)
theorem tw_543 : Cond.selects "ExactDigitsModel$Decimal" m_De_add m_De_add ∈ gw := gw_t 543 (by decide +kernel) (by decide +kernel)
theorem tw_544 : Cond.code m_De_add prog_6_method_12_code 7 (none) ∈ gw := gw_t 544 (by decide +kernel) (by decide +kernel)
theorem tw_545 : Cond.methodLink "ExactDigitsModel$Decimal" 55 m_Ma_min ∈ gw := gw_t 545 (by decide +kernel) (by decide +kernel)
theorem tw_546 : Cond.methodLink "ExactDigitsModel$Decimal" 45 m_Ma_max ∈ gw := gw_t 546 (by decide +kernel) (by decide +kernel)
theorem tw_547 : Cond.methodLink "ExactDigitsModel" 126 m_Mo_bits ∈ gw := gw_t 547 (by decide +kernel) (by decide +kernel)
theorem tw_549 : Cond.instanceMethod m_Mo_bits ∈ gw := gw_t 549 (by decide +kernel) (by decide +kernel)
theorem tw_550 : Cond.code m_Mo_bits prog_5_method_19_code 1 (Option.some FieldType.int) ∈ gw := gw_t 550 (by decide +kernel) (by decide +kernel)
theorem tw_551 : Cond.methodLink "ExactDigitsModel" 135 m_Mo_ones ∈ gw := gw_t 551 (by decide +kernel) (by decide +kernel)
theorem tw_553 : Cond.instanceMethod m_Mo_ones ∈ gw := gw_t 553 (by decide +kernel) (by decide +kernel)
theorem tw_554 : Cond.code m_Mo_ones prog_5_method_20_code 1 (Option.some FieldType.long) ∈ gw := gw_t 554 (by decide +kernel) (by decide +kernel)
theorem tw_555 : Cond.constantLong "ExactDigitsModel" 157 (1000000000 : Int64) ∈ gw := gw_t 555 (by decide +kernel) (by decide +kernel)
theorem tw_556 : Cond.methodLink "ExactDigitsModel" 147 m_Lo_numberOfLeadingZeros ∈ gw := gw_t 556 (by decide +kernel) (by decide +kernel)
theorem tw_557 : Cond.static m_Lo_numberOfLeadingZeros ∈ gw := gw_t 557 (by decide +kernel) (by decide +kernel)
theorem tw_558 : Cond.code m_Lo_numberOfLeadingZeros prog_13_method_48_code 3 (Option.some FieldType.int) ∈ gw := gw_t 558 (by decide +kernel) (by decide +kernel)
theorem tw_559 : Cond.methodLink "java/lang/Long" 308 m_In_numberOfLeadingZeros ∈ gw := gw_t 559 (by decide +kernel) (by decide +kernel)
theorem tw_560 : Cond.static m_In_numberOfLeadingZeros ∈ gw := gw_t 560 (by decide +kernel) (by decide +kernel)
theorem tw_561 : Cond.code m_In_numberOfLeadingZeros prog_12_method_47_code 2 (Option.some FieldType.int) ∈ gw := gw_t 561 (by decide +kernel) (by decide +kernel)
theorem tw_562 : Cond.constant "java/lang/Integer" 264 (65536 : Int32) ∈ gw := gw_t 562 (by decide +kernel) (by decide +kernel)
theorem tw_563 : Cond.methodLink "ExactDigitsModel" 129 m_De_half ∈ gw := gw_t 563 (by decide +kernel) (by decide +kernel)
theorem tw_564 : Cond.instanceMethod m_De_half ∈ gw := gw_t 564 (by decide +kernel) (by decide +kernel)
theorem tw_565 : Cond.selects "ExactDigitsModel$Decimal" m_De_half m_De_half ∈ gw := gw_t 565 (by decide +kernel) (by decide +kernel)
theorem tw_566 : Cond.code m_De_half prog_6_method_5_code 4 (none) ∈ gw := gw_t 566 (by decide +kernel) (by decide +kernel)
theorem tw_567 : Cond.constantLong "ExactDigitsModel$Decimal" 25 (1000000000 : Int64) ∈ gw := gw_t 567 (by decide +kernel) (by decide +kernel)
theorem tw_568 : Cond.constantLong "ExactDigitsModel$Decimal" 28 (2 : Int64) ∈ gw := gw_t 568 (by decide +kernel) (by decide +kernel)
theorem tw_569 : Cond.constant "ExactDigitsModel$Decimal" 30 (500000000 : Int32) ∈ gw := gw_t 569 (by decide +kernel) (by decide +kernel)
theorem tw_570 : Cond.methodLink "ExactDigitsModel" 132 m_De_twice ∈ gw := gw_t 570 (by decide +kernel) (by decide +kernel)
theorem tw_571 : Cond.instanceMethod m_De_twice ∈ gw := gw_t 571 (by decide +kernel) (by decide +kernel)
theorem tw_572 : Cond.selects "ExactDigitsModel$Decimal" m_De_twice m_De_twice ∈ gw := gw_t 572 (by decide +kernel) (by decide +kernel)
theorem tw_573 : Cond.code m_De_twice prog_6_method_4_code 4 (none) ∈ gw := gw_t 573 (by decide +kernel) (by decide +kernel)
theorem tw_574 : Cond.constant "ExactDigitsModel$Decimal" 27 (1000000000 : Int32) ∈ gw := gw_t 574 (by decide +kernel) (by decide +kernel)
theorem tw_575 : Cond.methodLink "ExactDigitsModel" 139 m_De_digit ∈ gw := gw_t 575 (by decide +kernel) (by decide +kernel)
theorem tw_576 : Cond.instanceMethod m_De_digit ∈ gw := gw_t 576 (by decide +kernel) (by decide +kernel)
theorem tw_577 : Cond.selects "ExactDigitsModel$Decimal" m_De_digit m_De_digit ∈ gw := gw_t 577 (by decide +kernel) (by decide +kernel)
theorem tw_578 : Cond.code m_De_digit prog_6_method_7_code 6 (Option.some FieldType.int) ∈ gw := gw_t 578 (by decide +kernel) (by decide +kernel)
theorem tw_579 : Cond.methodLink "ExactDigitsModel" 143 m_De_isBelow ∈ gw := gw_t 579 (by decide +kernel) (by decide +kernel)
theorem tw_580 : Cond.instanceMethod m_De_isBelow ∈ gw := gw_t 580 (by decide +kernel) (by decide +kernel)
theorem tw_581 : Cond.selects "ExactDigitsModel$Decimal" m_De_isBelow m_De_isBelow ∈ gw := gw_t 581 (by decide +kernel) (by decide +kernel)
theorem tw_582 : Cond.code m_De_isBelow prog_6_method_11_code 3 (Option.some FieldType.boolean) ∈ gw := gw_t 582 (by decide +kernel) (by decide +kernel)
theorem tw_583 : Cond.methodLink "ExactDigitsModel$Decimal" 51 m_De_low ∈ gw := gw_t 583 (by decide +kernel) (by decide +kernel)
theorem tw_584 : Cond.instanceMethod m_De_low ∈ gw := gw_t 584 (by decide +kernel) (by decide +kernel)
theorem tw_585 : Cond.selects "ExactDigitsModel$Decimal" m_De_low m_De_low ∈ gw := gw_t 585 (by decide +kernel) (by decide +kernel)
theorem tw_586 : Cond.code m_De_low prog_6_method_10_code 1 (Option.some FieldType.int) ∈ gw := gw_t 586 (by decide +kernel) (by decide +kernel)
theorem tw_587 : Cond.methodLink "ExactDigitsModel$Decimal" 41 m_De_digit ∈ gw := gw_t 587 (by decide +kernel) (by decide +kernel)
theorem tw_588 : Cond.methodLink "ExactDigitsLaw" 97 m_Mo_digest ∈ gw := gw_t 588 (by decide +kernel) (by decide +kernel)
theorem tw_589 : Cond.instanceMethod m_Mo_digest ∈ gw := gw_t 589 (by decide +kernel) (by decide +kernel)
theorem tw_590 : Cond.selects "ExactDigitsModel" m_Mo_digest m_Mo_digest ∈ gw := gw_t 590 (by decide +kernel) (by decide +kernel)
theorem tw_591 : Cond.code m_Mo_digest prog_5_method_21_code 4 (Option.some FieldType.long) ∈ gw := gw_t 591 (by decide +kernel) (by decide +kernel)
theorem tw_592 : Cond.constantLong "ExactDigitsModel" 159 (7 : Int64) ∈ gw := gw_t 592 (by decide +kernel) (by decide +kernel)
theorem tw_593 : Cond.constantLong "ExactDigitsModel" 161 (31 : Int64) ∈ gw := gw_t 593 (by decide +kernel) (by decide +kernel)
theorem tw_594 : Cond.constantLong "ExactDigitsLaw" 44 (4294967295 : Int64) ∈ gw := gw_t 594 (by decide +kernel) (by decide +kernel)
theorem tw_595 : Cond.arrayClass FieldType.long ∈ gw := gw_t 595 (by decide +kernel) (by decide +kernel)
theorem tw_596 : Cond.sameMethod "java/lang/Throwable" "java/lang/Throwable" "fillInStackTrace" "(I)Ljava/lang/Throwable;" ∈ gw := gw_t 596 (by decide +kernel) (by decide +kernel)
theorem tw_597 : Cond.fieldLink "ExactDigits$Format" 36 "ExactDigits$Format" "sizeMask" "J" ∈ gw := gw_t 597 (by decide +kernel) (by decide +kernel)
theorem tw_598 : Cond.fieldLink "ExactDigits" 100 "ExactDigits$Format" "infinite" "J" ∈ gw := gw_t 598 (by decide +kernel) (by decide +kernel)
theorem tw_599 : Cond.fieldLink "ExactDigits$Format" 29 "ExactDigits$Format" "fractionBits" "I" ∈ gw := gw_t 599 (by decide +kernel) (by decide +kernel)
theorem tw_600 : Cond.fieldLink "ExactDigits$Format" 33 "ExactDigits$Format" "leastExponent" "I" ∈ gw := gw_t 600 (by decide +kernel) (by decide +kernel)
theorem tw_601 : Cond.fieldLink "ExactDigits$Format" 40 "ExactDigits$Format" "infinite" "J" ∈ gw := gw_t 601 (by decide +kernel) (by decide +kernel)
theorem ts_0 : Cond.selects "ExactDigits" m_Ed_giveScratch m_Ed_giveScratch ∈ gw := gw_s 0 (by decide +kernel) (by decide +kernel)
theorem ts_1 : Cond.selects "ExactDigits" m_Ed_dropZerosBehind m_Ed_dropZerosBehind ∈ gw := gw_s 1 (by decide +kernel) (by decide +kernel)
theorem ts_2 : Cond.selects "ExactDigits" m_Ed_nearestToScratch m_Ed_nearestToScratch ∈ gw := gw_s 2 (by decide +kernel) (by decide +kernel)
theorem ts_3 : Cond.selects "ExactDigits$Natural" m_Na_times m_Na_times ∈ gw := gw_s 3 (by decide +kernel) (by decide +kernel)
theorem ts_4 : Cond.selects "ExactDigits$Natural" m_Na_digitAt m_Na_digitAt ∈ gw := gw_s 4 (by decide +kernel) (by decide +kernel)
theorem ts_5 : Cond.selects "java/lang/Throwable" ⟨"java/lang/Throwable", "fillInStackTrace", "(I)Ljava/lang/Throwable;"⟩ ⟨"java/lang/Throwable", "fillInStackTrace", "(I)Ljava/lang/Throwable;"⟩ ∈ gw := gw_s 5 (by decide +kernel) (by decide +kernel)
theorem ts_6 : Cond.selects "ExactDigits" m_Ed_giveExact m_Ed_giveExact ∈ gw := gw_s 6 (by decide +kernel) (by decide +kernel)
theorem ts_7 : Cond.selects "ExactDigits" m_Ed_shorten m_Ed_shorten ∈ gw := gw_s 7 (by decide +kernel) (by decide +kernel)
theorem ts_8 : Cond.selects "ExactDigits" m_Ed_neighbourReadBack m_Ed_neighbourReadBack ∈ gw := gw_s 8 (by decide +kernel) (by decide +kernel)
theorem ts_9 : Cond.selects "ExactDigits" m_Ed_firstDigits m_Ed_firstDigits ∈ gw := gw_s 9 (by decide +kernel) (by decide +kernel)
theorem ts_10 : Cond.selects "ExactDigits" m_Ed_isNearerAbove m_Ed_isNearerAbove ∈ gw := gw_s 10 (by decide +kernel) (by decide +kernel)
theorem ts_11 : Cond.selects "ExactDigits" m_Ed_readsBack m_Ed_readsBack ∈ gw := gw_s 11 (by decide +kernel) (by decide +kernel)
theorem ts_12 : Cond.selects "ExactDigits" m_Ed_append m_Ed_append ∈ gw := gw_s 12 (by decide +kernel) (by decide +kernel)
theorem ts_13 : Cond.selects "ExactDigits" m_Ed_keepFirstAndOneMore m_Ed_keepFirstAndOneMore ∈ gw := gw_s 13 (by decide +kernel) (by decide +kernel)
theorem ts_14 : Cond.selects "ExactDigits" m_Ed_keepFirst m_Ed_keepFirst ∈ gw := gw_s 14 (by decide +kernel) (by decide +kernel)
theorem ts_15 : Cond.selects "ExactDigitsModel" m_Mo_isNumber m_Mo_isNumber ∈ gw := gw_s 15 (by decide +kernel) (by decide +kernel)
theorem ts_16 : Cond.selects "ExactDigitsModel" m_Mo_first m_Mo_first ∈ gw := gw_s 16 (by decide +kernel) (by decide +kernel)
theorem ts_17 : Cond.selects "ExactDigitsModel" m_Mo_isIn m_Mo_isIn ∈ gw := gw_s 17 (by decide +kernel) (by decide +kernel)
theorem ts_18 : Cond.selects "ExactDigitsModel" m_Mo_kept m_Mo_kept ∈ gw := gw_s 18 (by decide +kernel) (by decide +kernel)
theorem ts_19 : Cond.selects "ExactDigitsModel" m_Mo_ended m_Mo_ended ∈ gw := gw_s 19 (by decide +kernel) (by decide +kernel)
theorem ts_20 : Cond.selects "ExactDigitsModel" m_Mo_bits m_Mo_bits ∈ gw := gw_s 20 (by decide +kernel) (by decide +kernel)
theorem ts_21 : Cond.selects "ExactDigitsModel" m_Mo_ones m_Mo_ones ∈ gw := gw_s 21 (by decide +kernel) (by decide +kernel)
theorem in_Na : ∀ w ∈ u_ws R_Na T_Na 2, w ∈ gw := by decide +kernel
theorem in_Ed : ∀ w ∈ u_ws R_Ed T_Ed 5, w ∈ gw := by decide +kernel
theorem in_De : ∀ w ∈ u_ws R_De T_De 3, w ∈ gw := by decide +kernel
theorem in_Ro : ∀ w ∈ u_ws R_Ro T_Ro 3, w ∈ gw := by decide +kernel
theorem in_Mo : ∀ w ∈ u_ws R_Mo T_Mo 10, w ∈ gw := by decide +kernel
end
section
/-! ===== BEGIN words of one list among another's, by their places ===== -/
theorem goodIn_r {big : List Cond} (ws : List Cond) (ps : List Nat) (hp : ws = ps.filterMap (fun i => big[i]?)) (h : ws.all goodWord = true) : GoodIn big ws := by
  intro w hw
  have h1 := List.all_eq_true.mp h w hw
  rw [hp] at hw
  obtain ⟨i, -, hi⟩ := List.mem_filterMap.mp hw
  have hm : w ∈ big := by first | exact List.mem_of_getElem? hi | exact List.getElem?_mem hi
  exact ⟨hm, good_of_word h1⟩
theorem goodIn_app {big a b : List Cond} (ha : GoodIn big a) (hb : GoodIn big b) : GoodIn big (a ++ b) := fun w h => (List.mem_append.mp h).elim (ha w) (hb w)
theorem goodIn_ca {big a b : List Cond} {c : Cond} (ha : GoodIn big (c :: a)) (hb : GoodIn big b) : GoodIn big (c :: (a ++ b)) := fun w h => (List.mem_cons.mp h).elim (fun e => ha w (List.mem_cons.mpr (Or.inl e))) (fun h => (List.mem_append.mp h).elim (fun h => ha w (List.mem_cons.mpr (Or.inr h))) (hb w))
theorem goodIn_sub {big ws : List Cond} (hm : ∀ w ∈ ws, w ∈ big) (h : ws.all goodWord = true) : GoodIn big ws := fun w hw => ⟨hm w hw, good_of_word (List.all_eq_true.mp h w hw)⟩
/-! ===== END ===== -/

/-! ===== BEGIN exceptions that leave a method, and their catching by the caller (launches without stack traces) ===== -/
section VXA
/-! The laws vx_back, vx_callV, vx_callS, vx_callSW, vx_throw0, vx_throwS follow proofs of the library, with one case more: JvmDerived/Free/Laws.lean (Back.of_free), Shelf42/LK1.lean (callV, callS), Shelf/KitTraced.lean (throwNew0V, throwNewS). -/
/-- where a method has thrown q: the class by its name, the cell, what was written, the world -/
def vx_T (XC : String → State → State → Prop) (st : State) (q : Addr) (t : State) (mc ms : Nat) (free : Addr → Prop) : Prop :=
  ∃ (E : String) (ce : Cell) (L : List Loc), XC E st t ∧ t.heap[q]? = some ce ∧ ce.vm = .none ∧ st.vm.findClass E = some ce.cls ∧ st.WarmedH t.vm ∧ st.sameButNew ({ t with vm := st.vm } : State) L mc ms ∧ ∀ z ∈ L, free z.base
def vx_Q (Qc : Array Value → State → Outcome → State → Prop) (XC : String → State → State → Prop) (mc ms : Nat) (free : Addr → Prop) : Array Value → State → Outcome → State → Prop := fun a st o t =>
  (Qc a st o t ∧ ∃ L, FrameEnd st o t L mc ms ∧ ∀ q ∈ L, free q.base) ∨ ∃ q, o = .threw q ∧ vx_T XC st q t mc ms free
/-- a callee that returns or throws -/
def vx_Met (l : Launch) (y : MethodName) (ws : List Cond) (rm : Room) (Pc : Array Value → State → Prop) (Qc : Array Value → State → Outcome → State → Prop) (XC : String → State → State → Prop) (mc ms : Nat) (free : Addr → Prop) : Prop :=
  MetFree l y (headSpec ws rm) Pc (fun _ _ _ _ _ => True) (vx_Q Qc XC mc ms free)
def vx_Post (XC : String → State → State → Prop) (mc ms : Nat) (free : Addr → Prop) : Pt → Array Value → Addr → Pt → Prop := fun A a q B =>
  ∃ (g : JFrame) (mk : MethodId) (t : State) (L : List Loc) (E : String) (ce : Cell), B.U.heap = t.heap ∧ B.U.vm = t.vm ∧ XC E (A.U.calling g mk a) t ∧ t.heap[q]? = some ce ∧ ce.vm = .none ∧ A.U.vm.findClass E = some ce.cls ∧ B.locs = A.locs ++ L ∧ (∀ z ∈ L, free z.base) ∧ B.cells = A.cells + mc ∧ B.slots = A.slots + ms
def vx_Back (l : Launch) (R : Room) (p : Program) (e : Env) (below : List Frame) (s : State) (sargs : Array Value) (y : MethodName) (len W9 : Nat)
    (Pre : Pt → Array Value → Prop) (Post : Pt → Array Value → Option Value → Pt → Prop) (PostX : Pt → Array Value → Addr → Pt → Prop) : Prop :=
  ∀ (m : MethodId) (meth : Method) (c : Code) (A : Pt) (g : JFrame) (ig : Instr) (mk : MethodId) (a : Array Value),
    Stand p l e R s m sargs below meth c A.U A.locs A.cells A.slots → g.method = m → g.locals.size = c.maxLocals → decode c.code g.pc = .ok (ig, len) →
    2 * g.monitorRoom + (g.stack.map fun v => v.category).sum ≤ W9 → A.U.methodNamed? y = some mk → Pre A a →
    (∃ (v : Option Value) (B : Pt), Stand p l e R s m sargs below meth c B.U B.locs B.cells B.slots ∧ Post A a v B ∧
      Steps p.tables e below (doInvoke e (A.U.setTop g) [] mk a).1 (B.U.setTop { g with pc := g.pc + len, stack := v.toList ++ g.stack })) ∨
    (∃ (q : Addr) (B : Pt), Stand p l e R s m sargs below meth c B.U B.locs B.cells B.slots ∧ PostX A a q B ∧
      Steps p.tables e below (doInvoke e (A.U.setTop g) [] mk a).1 ((B.U.setTop g).pushFrame (.throwing q)))
section Payer
variable {l : Launch} {R : Room} {p : Program} {e : Env} {below : List Frame} {s : State} {sargs : Array Value} {y : MethodName} {len W9 : Nat}
theorem vx_back {ws : List Cond} {rm : Room} {Pc : Array Value → State → Prop} {Qc : Array Value → State → Outcome → State → Prop} {XC : String → State → State → Prop} {mc ms : Nat} {free : Addr → Prop} {bytes : ByteArray} {maxL : Nat} {ret : Option FieldType}
    (hM : vx_Met l y ws rm Pc Qc XC mc ms free) (hblind : FrameBlind Pc) (hrc : rm.cells = mc) (hrs : rm.slots = ms)
    (hframes : rm.frames + 1 ≤ R.frames) (hlocals : W9 + (maxL + 11) + rm.locals ≤ R.locals)
    (hws : ∀ w ∈ ws, ∀ a' U, s.WarmedH U.vm → w.before a' U = true) (hcode : Cond.code y bytes maxL ret ∈ ws) (hinit : ∀ a' U, s.WarmedH U.vm → (Cond.initialized y.cls).before a' U = true) :
    vx_Back l R p e below s sargs y len W9 (PreOf R mc ms Pc) (PostOf Qc mc ms free) (vx_Post XC mc ms free) := by
  intro m meth c A g ig mk a X hg hsize hdg hW hn hp
  have h1 : (headSpec ws rm).pre.before a A.U = true := atoms_intro fun w hw => hws w hw _ _ X.warmed
  have h2 : (Cond.code y bytes maxL ret).before a A.U = true := hws _ hcode _ _ X.warmed
  have h3 : (Cond.initialized y.cls).before a A.U = true := hinit _ _ X.warmed
  have h4 : A.cells + (headSpec ws rm).room.cells ≤ R.cells := by rw [show (headSpec ws rm).room.cells = mc from hrc]; exact hp.1
  have h5 : A.slots + (headSpec ws rm).room.slots ≤ R.slots := by rw [show (headSpec ws rm).room.slots = ms from hrs]; exact hp.2.1
  have hPc : Pc a (A.U.calling g mk a) := hblind _ _ _ _ hp.2.2
  obtain ⟨U, Ls, c0, s0⟩ := A
  dsimp only [Pt.U, Pt.locs, Pt.cells, Pt.slots] at h1 h2 h3 h4 h5 X hn hPc ⊢
  obtain ⟨methY, cY, hmY, hcY, -, hlY, -, -, -, -⟩ := Cond.code_spec hn h2
  obtain ⟨kY, hkY, -⟩ := className_of_methodNamed hn
  have hinitY : kY.init = .initialized := Cond.initialized_spec (findClass_of_methodNamed hn) hkY h3
  have h : At U g.method c below := by rw [hg]; exact X.here
  have hlocals9 : W9 + (maxL + 11) + (headSpec ws rm).room.locals ≤ R.locals := hlocals
  have happ : (headSpec ws rm).appliesLoose y e.platform (U.calling g mk a) = true :=
    Spec.appliesLoose_calling (g := g) h hdg hn hkY hinitY
      (X.room_calling (g := g) (R' := (headSpec ws rm).room) hsize hmY hcY hframes (by rw [hlY]; omega) h4 h5) h1
  obtain ⟨mid, hmid⟩ := h.above
  have hfr : (U.setTop g).frames = (.java g :: mid) ++ below := by rw [State.frames_setTop' g h.top, hmid]; rfl
  obtain ⟨o, s₂, hsteps, -, hend, hq⟩ := Steps.callFree hM p X.admits X.cas X.clock (acts := []) hfr happ hPc trivial
  have hq' : vx_Q Qc XC mc ms free a (U.calling g mk a) o s₂ := hq
  rw [State.frames_setTop' g h.top] at hend
  obtain ⟨g₀, hg0⟩ := Option.isSome_iff_exists.mp h.top
  obtain ⟨r, hr⟩ := State.topJava?_eq_some.mp hg0
  have hr' : (({ U with heap := s₂.heap, slotsUsed := s₂.slotsUsed } : State).setVm s₂.vm).frames = .java g₀ :: r := hr
  rcases hq' with ⟨hqc, L, hfe, hL⟩ | ⟨q, rfl, E, ce, L, hx, hce, hcv, hcl, hW₂, hsm, hL⟩
  · obtain ⟨⟨v, rfl⟩, hW₂, e2, q2, q3, q4, q5, q6⟩ := id hfe
    have e3 : s₂ = ({ (U.calling g mk a).setFrames s₂.frames with heap := s₂.heap, slotsUsed := s₂.slotsUsed } : State).setVm s₂.vm := by
      have : s₂ = ({ s₂ with vm := (U.calling g mk a).vm } : State).setVm s₂.vm := rfl
      rw [e2] at this
      exact this
    obtain ⟨c₂, i₂, len₂, hc₂, hd₂, hf₂⟩ := hend
    have hW' : U.WarmedH s₂.vm := hW₂
    have hcc : c₂ = c := by
      have h1 : s₂.code? g.method = U.code? g.method := by
        rw [State.code?_eq, State.code?_eq, hW'.alike.method?]
      exact Option.some.inj (hc₂.symm.trans (h1.trans h.code))
    subst hcc
    have hlen : len₂ = len := by rw [hdg] at hd₂; cases hd₂; rfl
    subst hlen
    have hs₂ : s₂ = (({ U with heap := s₂.heap, slotsUsed := s₂.slotsUsed } : State).setVm s₂.vm).setTop { g with pc := g.pc + len₂, stack := v.toList ++ g.stack } := by
      refine e3.trans ?_
      rw [hf₂, State.calling_eq h.top, State.setFrames_setFrames, State.setTop_of_frames _ hr', hr]
      rfl
    have hsame : U.sameButNew ({ U with heap := s₂.heap, slotsUsed := s₂.slotsUsed } : State) L mc ms := by
      refine ⟨?_, q2, q3, q4, q5, q6⟩
      obtain ⟨t, ht, -⟩ := State.frames_cons hr
      show ({ U with heap := s₂.heap, slotsUsed := s₂.slotsUsed } : State) = { U.setFrames U.frames with heap := s₂.heap, slotsUsed := s₂.slotsUsed }
      rw [State.setFrames_self ht]
    subst hg
    refine Or.inl ⟨v, ⟨(({ U with heap := s₂.heap, slotsUsed := s₂.slotsUsed } : State).setVm s₂.vm), Ls ++ L, c0 + mc, s0 + ms⟩,
      ⟨X.admits, X.cas, X.clock, X.frames, X.room, X.hears, X.method, X.code, (X.here.setHeapUsed s₂.heap s₂.slotsUsed).setVm hW'.alike, X.tail, State.WarmedH.trans X.warmed hW', X.limits, X.bytes, X.same.trans (hsame.setVm s.vm)⟩,
      ⟨g, mk, s₂, L, rfl, rfl, hqc, rfl, hL, rfl, rfl⟩, ?_⟩
    show Steps p.tables e below _ ((({ U with heap := s₂.heap, slotsUsed := s₂.slotsUsed } : State).setVm s₂.vm).setTop { g with pc := g.pc + len₂, stack := v.toList ++ g.stack })
    rw [← hs₂]
    exact hsteps
  · obtain ⟨e2, q2, q3, q4, q5, q6⟩ := id hsm
    have e3 : s₂ = ({ (U.calling g mk a).setFrames s₂.frames with heap := s₂.heap, slotsUsed := s₂.slotsUsed } : State).setVm s₂.vm := by
      have : s₂ = ({ s₂ with vm := (U.calling g mk a).vm } : State).setVm s₂.vm := rfl
      rw [e2] at this
      exact this
    have hf₂ : s₂.frames = .throwing q :: .java g :: U.frames.tail := hend
    have hW' : U.WarmedH s₂.vm := hW₂
    have hs₂ : s₂ = ((({ U with heap := s₂.heap, slotsUsed := s₂.slotsUsed } : State).setVm s₂.vm).setTop g).pushFrame (.throwing q) := by
      refine e3.trans ?_
      rw [hf₂, State.calling_eq h.top, State.setFrames_setFrames, State.pushFrame, State.frames_setTop _ hr', State.setTop_of_frames _ hr', State.setFrames_setFrames, hr]
      rfl
    have hsame : U.sameButNew ({ U with heap := s₂.heap, slotsUsed := s₂.slotsUsed } : State) L mc ms := by
      refine ⟨?_, q2, q3, q4, q5, q6⟩
      obtain ⟨t, ht, -⟩ := State.frames_cons hr
      show ({ U with heap := s₂.heap, slotsUsed := s₂.slotsUsed } : State) = { U.setFrames U.frames with heap := s₂.heap, slotsUsed := s₂.slotsUsed }
      rw [State.setFrames_self ht]
    subst hg
    refine Or.inr ⟨q, ⟨(({ U with heap := s₂.heap, slotsUsed := s₂.slotsUsed } : State).setVm s₂.vm), Ls ++ L, c0 + mc, s0 + ms⟩,
      ⟨X.admits, X.cas, X.clock, X.frames, X.room, X.hears, X.method, X.code, (X.here.setHeapUsed s₂.heap s₂.slotsUsed).setVm hW'.alike, X.tail, State.WarmedH.trans X.warmed hW', X.limits, X.bytes, X.same.trans (hsame.setVm s.vm)⟩,
      ⟨g, mk, s₂, L, E, ce, rfl, rfl, hx, hce, hcv, hcl, rfl, hL, rfl, rfl⟩, ?_⟩
    show Steps p.tables e below _ (((({ U with heap := s₂.heap, slotsUsed := s₂.slotsUsed } : State).setVm s₂.vm).setTop g).pushFrame (.throwing q))
    rw [← hs₂]
    exact hsteps
end Payer
section Calls
variable {p : Program} {l : Launch} {e : Env} {R : Room} {s : State} {m : MethodId} {args : Array Value} {below : List Frame} {meth : Method} {c : Code} {T : State} {locs : List Loc} {cells slots : Nat}
theorem vx_callV (X : Stand p l e R s m args below meth c T locs cells slots) (hexec : p.tables.exec = Jvm.exec) {own C : String} {index : Nat} {y : MethodName} {bytes : ByteArray} {maxL : Nat} {ret : Option FieldType}
    (hown : s.vm.findClass own = some m.cls) (hlink : (Cond.methodLink own index y).before args s = true) (hinst : (Cond.instanceMethod y).before args s = true) (hsel : (Cond.selects C y y).before args s = true)
    (hcode : (Cond.code y bytes maxL ret).before args s = true) (hy : y.cls ≠ "java/lang/invoke/MethodHandle" ∧ y.cls ≠ "java/lang/invoke/VarHandle")
    {W9 : Nat} {Pre : Pt → Array Value → Prop} {Post : Pt → Array Value → Option Value → Pt → Prop} {PostX : Pt → Array Value → Addr → Pt → Prop} (hK : vx_Back l R p e below s args y 3 W9 Pre Post PostX)
    {b : Addr} {cellB : Cell} (hcell : T.heap[b]? = some cellB) (hobj : cellB.vm.isStatics = false) (hcls : s.vm.findClass C = some cellB.cls)
    {g : JFrame} (hg : g.method = m) (hsize : g.locals.size = c.maxLocals) {argsL rest : List Value} (hlen : ∀ sig, parseMethodDescriptor y.desc = some sig → argsL.length = sig.parameters.length)
    (hstack : g.stack = argsL.reverse ++ .ref b :: rest) (hW : 2 * g.monitorRoom + (rest.map fun v => v.category).sum ≤ W9) (hdg : decode c.code g.pc = .ok (.invokevirtual index, 3))
    (hpre : ∀ vm₁, s.WarmedH vm₁ → Pre ⟨T.setVm vm₁, locs, cells, slots⟩ (Value.ref b :: argsL).toArray) :
    (∃ (v : Option Value) (vm₁ : Vm) (B : Pt), s.WarmedH vm₁ ∧ Stand p l e R s m args below meth c B.U B.locs B.cells B.slots ∧ Post ⟨T.setVm vm₁, locs, cells, slots⟩ (Value.ref b :: argsL).toArray v B ∧
      ∀ target, Steps p.tables e below (B.U.setTop { g with pc := g.pc + 3, stack := v.toList ++ rest }) target → Steps p.tables e below (T.setTop g) target) ∨
    (∃ (q : Addr) (vm₁ : Vm) (B : Pt), s.WarmedH vm₁ ∧ Stand p l e R s m args below meth c B.U B.locs B.cells B.slots ∧ PostX ⟨T.setVm vm₁, locs, cells, slots⟩ (Value.ref b :: argsL).toArray q B ∧
      Steps p.tables e below (T.setTop g) ((B.U.setTop { g with stack := rest }).pushFrame (.throwing q))) := by
  obtain ⟨mk, methM, hnamed, hmethM, hstM, habM⟩ := Cond.instanceMethod_spec hinst
  obtain ⟨methM', cM, hmethM', -, -, -, -, -, -, hsigM⟩ := Cond.code_spec hnamed hcode
  cases hmethM.symm.trans hmethM'
  obtain ⟨c2, r2, m2, q1, q2, q3, q4, kP, hkP, hkPi⟩ := Cond.selects_spec hsel
  cases hcls.symm.trans q1
  cases (State.methodFound?_of_named hnamed hy).symm.trans q2
  cases hnamed.symm.trans q3
  have hselP : selectMethod e.platform s.vm cellB.cls mk = .method mk := by rw [Launch.admits_selectMethod X.admits]; exact q4
  obtain ⟨vm₁, X₁, hstep₁⟩ := X.invokevirtual hexec hown hlink hnamed hmethM hstM hkP hkPi hy (a := b) (cell := cellB) hcell
    (fun z h => by rw [h] at hobj; cases hobj) hselP hmethM habM hkP hkPi (g := g) hg (argsL := argsL) (rest := rest) (hlen _ hsigM) hstack hdg
  rcases hK m meth c ⟨T.setVm vm₁, locs, cells, slots⟩ { g with stack := rest } (.invokevirtual index) mk (Value.ref b :: argsL).toArray X₁ hg hsize hdg hW (X₁.named hnamed) (hpre vm₁ X₁.warmed) with ⟨v, B, X', hpost, hsteps⟩ | ⟨q, B, X', hpost, hsteps⟩
  · exact Or.inl ⟨v, vm₁, B, X₁.warmed, X', hpost, fun target h => hstep₁ _ fun acts => by rw [doInvoke_state]; exact hsteps.trans h⟩
  · exact Or.inr ⟨q, vm₁, B, X₁.warmed, X', hpost, hstep₁ _ fun acts => by rw [doInvoke_state]; exact hsteps⟩
theorem vx_callS (X : Stand p l e R s m args below meth c T locs cells slots) (hexec : p.tables.exec = Jvm.exec) {own : String} {index : Nat} {y : MethodName} {bytes : ByteArray} {maxL : Nat} {ret : Option FieldType}
    (hown : s.vm.findClass own = some m.cls) (hlink : (Cond.methodLink own index y).before args s = true) (hstat : (Cond.static y).before args s = true) (hinit : (Cond.initialized y.cls).before args s = true)
    (hcode : (Cond.code y bytes maxL ret).before args s = true) (hy : y.cls ≠ "java/lang/invoke/MethodHandle" ∧ y.cls ≠ "java/lang/invoke/VarHandle")
    {W9 : Nat} {Pre : Pt → Array Value → Prop} {Post : Pt → Array Value → Option Value → Pt → Prop} {PostX : Pt → Array Value → Addr → Pt → Prop} (hK : vx_Back l R p e below s args y 3 W9 Pre Post PostX)
    {g : JFrame} (hg : g.method = m) (hsize : g.locals.size = c.maxLocals) {argsL rest : List Value} (hlen : ∀ sig, parseMethodDescriptor y.desc = some sig → argsL.length = sig.parameters.length)
    (hstack : g.stack = argsL.reverse ++ rest) (hW : 2 * g.monitorRoom + (rest.map fun v => v.category).sum ≤ W9) (hdg : decode c.code g.pc = .ok (.invokestatic index, 3))
    (hpre : ∀ vm₁, s.WarmedH vm₁ → Pre ⟨T.setVm vm₁, locs, cells, slots⟩ argsL.toArray) :
    (∃ (v : Option Value) (vm₁ : Vm) (B : Pt), s.WarmedH vm₁ ∧ Stand p l e R s m args below meth c B.U B.locs B.cells B.slots ∧ Post ⟨T.setVm vm₁, locs, cells, slots⟩ argsL.toArray v B ∧
      ∀ target, Steps p.tables e below (B.U.setTop { g with pc := g.pc + 3, stack := v.toList ++ rest }) target → Steps p.tables e below (T.setTop g) target) ∨
    (∃ (q : Addr) (vm₁ : Vm) (B : Pt), s.WarmedH vm₁ ∧ Stand p l e R s m args below meth c B.U B.locs B.cells B.slots ∧ PostX ⟨T.setVm vm₁, locs, cells, slots⟩ argsL.toArray q B ∧
      Steps p.tables e below (T.setTop g) ((B.U.setTop { g with stack := rest }).pushFrame (.throwing q))) := by
  obtain ⟨mk, hnamed⟩ := Cond.code_named hcode
  obtain ⟨methM, cM, hmethM, -, -, -, -, -, -, hsigM⟩ := Cond.code_spec hnamed hcode
  have hstatic : methM.isStatic = true := Cond.static_spec hnamed hmethM hstat
  obtain ⟨kP, hkP, -⟩ := className_of_methodNamed hnamed
  have hinitP : kP.init = .initialized := Cond.initialized_spec (findClass_of_methodNamed hnamed) hkP hinit
  obtain ⟨vm₁, X₁, hstep₁⟩ := X.invokestatic hexec hown hlink hnamed hmethM hstatic hkP hinitP hy (g := g) hg (argsL := argsL) (rest := rest) (hlen _ hsigM) hstack hdg
  rcases hK m meth c ⟨T.setVm vm₁, locs, cells, slots⟩ { g with stack := rest } (.invokestatic index) mk argsL.toArray X₁ hg hsize hdg hW (X₁.named hnamed) (hpre vm₁ X₁.warmed) with ⟨v, B, X', hpost, hsteps⟩ | ⟨q, B, X', hpost, hsteps⟩
  · exact Or.inl ⟨v, vm₁, B, X₁.warmed, X', hpost, fun target h => hstep₁ _ fun acts => by rw [doInvoke_state]; exact hsteps.trans h⟩
  · exact Or.inr ⟨q, vm₁, B, X₁.warmed, X', hpost, hstep₁ _ fun acts => by rw [doInvoke_state]; exact hsteps⟩
end Calls
theorem vx_cls {s : State} {T : State} {vm₁ : Vm} {E : String} {k : ClassId} (hW : s.WarmedH vm₁) (h : (T.setVm vm₁).vm.findClass E = some k) : s.vm.findClass E = some k := by
  have h1 : vm₁.findClass E = some k := h
  rw [hW.alike.findClass] at h1
  exact h1
/-- the method's frame g, with q thrown over it -/
def vx_W (p : Program) (l : Launch) (e : Env) (R : Room) (s : State) (m : MethodId) (args : Array Value) (below : List Frame) (meth : Method) (c : Code) (H : Heap) (locs : List Loc) (cells slots : Nat) (Q : State → Prop) (g : JFrame) (q : Addr) : Prop :=
  ∀ T : State, T.heap = H → Stand p l e R s m args below meth c T locs cells slots → ∃ t, Steps p.tables e below ((T.setTop g).pushFrame (.throwing q)) t ∧ Q t
def vx_Run (p : Program) (l : Launch) (e : Env) (R : Room) (s : State) (m : MethodId) (args : Array Value) (below : List Frame) (meth : Method) (c : Code) (H : Heap) (locs : List Loc) (cells slots mc ms : Nat) (g : JFrame) (rest : List Value) (Qa : State → Outcome → State → Prop) (XC : String → State → State → Prop) (free : Addr → Prop) : Prop :=
  ∀ T : State, T.heap = H → Stand p l e R s m args below meth c T locs cells slots →
    (∃ (v : Option Value) (st₀ t T' : State) (L : List Loc), st₀.heap = H ∧ Stand p l e R s m args below meth c T' (locs ++ L) (cells + mc) (slots + ms) ∧ (∀ q ∈ L, free q.base) ∧ T'.heap = t.heap ∧ T'.vm = t.vm ∧ Qa st₀ (.returned v) t ∧
      Goes p e below T g T' { g with pc := g.pc + 3, stack := v.toList ++ rest }) ∨
    (∃ (q : Addr) (st₀ t T' : State) (L : List Loc) (E : String) (ce : Cell), st₀.heap = H ∧ Stand p l e R s m args below meth c T' (locs ++ L) (cells + mc) (slots + ms) ∧ (∀ z ∈ L, free z.base) ∧ T'.heap = t.heap ∧ T'.vm = t.vm ∧ XC E st₀ t ∧ t.heap[q]? = some ce ∧ ce.vm = .none ∧ s.vm.findClass E = some ce.cls ∧
      Steps p.tables e below (T.setTop g) ((T'.setTop { g with stack := rest }).pushFrame (.throwing q)))
def vx_X {S : Type} (px : S → Prop) (B : String → S → State → Prop) (A : Nat → Prop) : String → State → State → Prop := fun E st t => ∃ u : S, px u ∧ B E u t ∧ va_F A st t
section Runs
variable {p : Program} {l : Launch} {e : Env} {R : Room} {s : State} {m : MethodId} {args : Array Value} {below : List Frame} {meth : Method} {c : Code} {H : Heap} {locs : List Loc} {cells slots : Nat}
variable {y : MethodName} {bytes cc : ByteArray} {maxL nL mc ms n index : Nat} {ret : Option FieldType} {ws : List Cond} {rm : Room} {Pc : Array Value → State → Prop} {Qc : Array Value → State → Outcome → State → Prop} {XC : String → State → State → Prop} {free : Addr → Prop} {Ts : List Cond} {own C : String} {b : Addr} {As rest : List Value} {g : JFrame}
theorem vx_callBack (cb : CallB R s args own index y bytes maxL ret ws rm mc ms n) (hM : vx_Met l y ws rm Pc Qc XC mc ms free) (hbl : FrameBlind Pc) : vx_Back l R p e below s args y 3 8 (PreOf R mc ms Pc) (PostOf Qc mc ms free) (vx_Post XC mc ms free) := by
  obtain ⟨hrc, hrs, hfr, hlo, hws, hcw, -, hini, -⟩ := cb
  exact vx_back (bytes := bytes) (maxL := maxL) (ret := ret) hM hbl hrc hrs hfr hlo hws hcw (fun a' U hW => word_at hW (Or.inl (by first | rfl | simp [Cond.onTables, Cond.keeps, Cond.steady])) hini)
theorem vx_runV (S : CallFix p m c cc nL s args Ts own) (hM : vx_Met l y ws rm Pc Qc XC mc ms free) (cw : CallW R s args own C index y bytes maxL ret ws rm mc ms n) (hp : PreV s H C b Pc As)
    (hg : g.method = m) (hn : As.length = n) (hsize : g.locals.size = nL) (hstack : g.stack = As.reverse ++ .ref b :: rest) (hW : 2 * g.monitorRoom + (rest.map fun v => v.category).sum ≤ 8) (hdg : decode cc g.pc = .ok (.invokevirtual index, 3)) (hf : cells + mc ≤ R.cells ∧ slots + ms ≤ R.slots) :
    vx_Run p l e R s m args below meth c H locs cells slots mc ms g rest (Qc (Value.ref b :: As).toArray) XC free := by
  have hK : vx_Back l R p e below s args y 3 8 (PreOf R mc ms Pc) (PostOf Qc mc ms free) (vx_Post XC mc ms free) := vx_callBack cw.1 hM hp.1
  obtain ⟨⟨-, -, -, -, -, -, hcode, -, hy, hlen, hl⟩, hin, hse⟩ := cw
  obtain ⟨hx, hb, hml, ho, -⟩ := S
  obtain ⟨-, ⟨cellB, hcB, hoB, hclB⟩, hPc⟩ := hp
  intro T hT X
  rcases vx_callV X hx (C := C) (bytes := bytes) (maxL := maxL) (ret := ret) ho hl hin hse hcode hy hK (by rw [hT]; exact hcB) hoB hclB hg (hsize.trans hml.symm) (argsL := As) (rest := rest) (fun sig h => hn.trans (hlen sig h)) hstack hW (by rw [hb]; exact hdg)
    (fun vm₁ hW₁ => ⟨hf.1, hf.2, hPc (T.setVm vm₁) hT hW₁⟩) with ⟨v, vm₁, ⟨U', l2, c2, s2⟩, hW₁, X', ⟨g', mk, t, L, e1, e2, hq, h1, hL, h2, h3⟩, st⟩ | ⟨q, vm₁, ⟨U', l2, c2, s2⟩, hW₁, X', ⟨g', mk, t, L, E, ce, e1, e2, hq, hce, hcv, hcl, h1, hL, h2, h3⟩, st⟩
  · dsimp only [Pt.U, Pt.locs, Pt.cells, Pt.slots] at X' e1 e2 h1 h2 h3 st
    subst h1; subst h2; subst h3
    exact Or.inl ⟨v, (T.setVm vm₁).calling g' mk (Value.ref b :: As).toArray, t, U', L, hT, X', hL, e1, e2, hq, st⟩
  · dsimp only [Pt.U, Pt.locs, Pt.cells, Pt.slots] at X' e1 e2 h1 h2 h3 st hcl
    subst h1; subst h2; subst h3
    exact Or.inr ⟨q, (T.setVm vm₁).calling g' mk (Value.ref b :: As).toArray, t, U', L, E, ce, hT, X', hL, e1, e2, hq, hce, hcv, vx_cls hW₁ hcl, st⟩
theorem vx_runS (S : CallFix p m c cc nL s args Ts own) (hM : vx_Met l y ws rm Pc Qc XC mc ms free) (cw : CallB R s args own index y bytes maxL ret ws rm mc ms n ∧ (Cond.static y).before args s = true) (hp : PreS s H Pc As)
    (hg : g.method = m) (hn : As.length = n) (hsize : g.locals.size = nL) (hstack : g.stack = As.reverse ++ rest) (hW : 2 * g.monitorRoom + (rest.map fun v => v.category).sum ≤ 8) (hdg : decode cc g.pc = .ok (.invokestatic index, 3)) (hf : cells + mc ≤ R.cells ∧ slots + ms ≤ R.slots) :
    vx_Run p l e R s m args below meth c H locs cells slots mc ms g rest (Qc As.toArray) XC free := by
  have hK : vx_Back l R p e below s args y 3 8 (PreOf R mc ms Pc) (PostOf Qc mc ms free) (vx_Post XC mc ms free) := vx_callBack cw.1 hM hp.1
  obtain ⟨⟨-, -, -, -, -, -, hcode, hini, hy, hlen, hl⟩, hstt⟩ := cw
  obtain ⟨hx, hb, hml, ho, -⟩ := S
  intro T hT X
  rcases vx_callS X hx (bytes := bytes) (maxL := maxL) (ret := ret) ho hl hstt hini hcode hy hK hg (hsize.trans hml.symm) (argsL := As) (rest := rest) (fun sig h => hn.trans (hlen sig h)) hstack hW (by rw [hb]; exact hdg)
    (fun vm₁ hW₁ => ⟨hf.1, hf.2, hp.2 (T.setVm vm₁) hT hW₁⟩) with ⟨v, vm₁, ⟨U', l2, c2, s2⟩, hW₁, X', ⟨g', mk, t, L, e1, e2, hq, h1, hL, h2, h3⟩, st⟩ | ⟨q, vm₁, ⟨U', l2, c2, s2⟩, hW₁, X', ⟨g', mk, t, L, E, ce, e1, e2, hq, hce, hcv, hcl, h1, hL, h2, h3⟩, st⟩
  · dsimp only [Pt.U, Pt.locs, Pt.cells, Pt.slots] at X' e1 e2 h1 h2 h3 st
    subst h1; subst h2; subst h3
    exact Or.inl ⟨v, (T.setVm vm₁).calling g' mk As.toArray, t, U', L, hT, X', hL, e1, e2, hq, st⟩
  · dsimp only [Pt.U, Pt.locs, Pt.cells, Pt.slots] at X' e1 e2 h1 h2 h3 st hcl
    subst h1; subst h2; subst h3
    exact Or.inr ⟨q, (T.setVm vm₁).calling g' mk As.toArray, t, U', L, E, ce, hT, X', hL, e1, e2, hq, hce, hcv, vx_cls hW₁ hcl, st⟩
end Runs
section Rows
variable {p : Program} {l : Launch} {e : Env} {R : Room} {s : State} {m : MethodId} {args : Array Value} {below : List Frame} {meth : Method} {c : Code} {H : Heap} {locs : List Loc} {cells slots : Nat} {Q : State → Prop}
variable {mc ms : Nat} {free : Addr → Prop} {A0 A1 : Nat → Prop} {H0 : Heap} {a : Array Value} {pc : Nat} {ls : Array Slot} {st0 rest : List Value}
theorem vx_keep {st₀ t T' : State} {L : List Loc} (h0 : st₀.heap = H) (e1 : T'.heap = t.heap) (hS : va_S A0 H0 H locs) (hA : ∀ q, q < H.size → A1 q → A0 q) (hf : ∀ q, free q → A0 q) (hL : ∀ q ∈ L, free q.base) (hF : va_F A1 st₀ t) :
    H.size ≤ T'.heap.size ∧ (∀ q : Nat, q < H.size → ¬ A1 q → T'.heap[q]? = H[q]?) ∧ va_S A0 H0 T'.heap (locs ++ L) := by
  obtain ⟨hz, hk⟩ := hF
  rw [h0] at hz hk
  exact ⟨by rw [e1]; exact hz, fun q h1 h2 => by rw [e1]; exact hk q h1 h2,
    ⟨Nat.le_trans hS.1 (by rw [e1]; exact hz), fun q h1 h2 => by rw [e1, hk q (Nat.lt_of_lt_of_le h1 hS.1) (fun z => h2 (hA q (Nat.lt_of_lt_of_le h1 hS.1) z))]; exact hS.2.1 q h1 h2, fun q hq => by
      rcases List.mem_append.mp hq with h | h
      · exact hS.2.2 q h
      · exact hf _ (hL q h)⟩⟩
theorem vx_calli {S SX : Type} {post : Int32 → S → Prop} {px : SX → Prop} {B : S → State → Prop} {BX : String → SX → State → Prop} {AX : Nat → Prop} (hr : vx_Run p l e R s m args below meth c H locs cells slots mc ms (F0 m pc ls st0) rest (va_Qi post B A1 a) (vx_X px BX AX) free) (hS : va_S A0 H0 H locs) (hA : ∀ q, q < H.size → A1 q → A0 q) (hf : ∀ q, free q → A0 q) (hAX : ∀ q, q < H.size → AX q → A0 q)
    (kx : ∀ (E : String) (ce : Cell) (q9 : Addr) (u : SX) (t : State) (H1 : Heap) (locs1 : List Loc), t.heap = H1 → s.vm.Alike t.vm → px u → BX E u t → H.size ≤ H1.size → (∀ q : Nat, q < H.size → ¬ AX q → H1[q]? = H[q]?) → va_S A0 H0 H1 locs1 → H1[q9]? = some ce → ce.vm = .none → s.vm.findClass E = some ce.cls → vx_W p l e R s m args below meth c H1 locs1 (cells + mc) (slots + ms) Q (F0 m pc ls rest) q9)
    (kk : ∀ (r : Int32) (u : S) (t : State) (H1 : Heap) (locs1 : List Loc), t.heap = H1 → s.vm.Alike t.vm → post r u → B u t → H.size ≤ H1.size → (∀ q : Nat, q < H.size → ¬ A1 q → H1[q]? = H[q]?) → va_S A0 H0 H1 locs1 → W p l e R s m args below meth c H1 locs1 (cells + mc) (slots + ms) Q (F0 m (pc + 3) ls (.int r :: rest))) : W p l e R s m args below meth c H locs cells slots Q (F0 m pc ls st0) := by
  intro T hT X
  rcases hr T hT X with ⟨v, st₀, t, T', L, h0, X', hL, e1, e2, ⟨⟨r, u, hv, hp, hb⟩, hF⟩, st⟩ | ⟨q, st₀, t, T', L, E, ce, h0, X', hL, e1, e2, ⟨u, hp, hb, hF⟩, hce, hcv, hcl, st⟩
  · cases hv
    obtain ⟨k1, k2, k3⟩ := vx_keep h0 e1 hS hA hf hL hF
    obtain ⟨t2, a1, b1⟩ := kk r u t T'.heap (locs ++ L) e1.symm (by rw [← e2]; exact X'.warmed.alike) hp hb k1 k2 k3 T' rfl X'
    exact ⟨t2, st t2 a1, b1⟩
  · obtain ⟨k1, k2, k3⟩ := vx_keep h0 e1 hS hAX hf hL hF
    obtain ⟨t2, a1, b1⟩ := kx E ce q u t T'.heap (locs ++ L) e1.symm (by rw [← e2]; exact X'.warmed.alike) hp hb k1 k2 k3 (by rw [e1]; exact hce) hcv hcl T' rfl X'
    exact ⟨t2, st.trans a1, b1⟩
theorem vx_calll {S SX : Type} {post : Int64 → S → Prop} {px : SX → Prop} {B : S → State → Prop} {BX : String → SX → State → Prop} {AX : Nat → Prop} (hr : vx_Run p l e R s m args below meth c H locs cells slots mc ms (F0 m pc ls st0) rest (va_Ql post B A1 a) (vx_X px BX AX) free) (hS : va_S A0 H0 H locs) (hA : ∀ q, q < H.size → A1 q → A0 q) (hf : ∀ q, free q → A0 q) (hAX : ∀ q, q < H.size → AX q → A0 q)
    (kx : ∀ (E : String) (ce : Cell) (q9 : Addr) (u : SX) (t : State) (H1 : Heap) (locs1 : List Loc), t.heap = H1 → s.vm.Alike t.vm → px u → BX E u t → H.size ≤ H1.size → (∀ q : Nat, q < H.size → ¬ AX q → H1[q]? = H[q]?) → va_S A0 H0 H1 locs1 → H1[q9]? = some ce → ce.vm = .none → s.vm.findClass E = some ce.cls → vx_W p l e R s m args below meth c H1 locs1 (cells + mc) (slots + ms) Q (F0 m pc ls rest) q9)
    (kk : ∀ (r : Int64) (u : S) (t : State) (H1 : Heap) (locs1 : List Loc), t.heap = H1 → s.vm.Alike t.vm → post r u → B u t → H.size ≤ H1.size → (∀ q : Nat, q < H.size → ¬ A1 q → H1[q]? = H[q]?) → va_S A0 H0 H1 locs1 → W p l e R s m args below meth c H1 locs1 (cells + mc) (slots + ms) Q (F0 m (pc + 3) ls (.long r :: rest))) : W p l e R s m args below meth c H locs cells slots Q (F0 m pc ls st0) := by
  intro T hT X
  rcases hr T hT X with ⟨v, st₀, t, T', L, h0, X', hL, e1, e2, ⟨⟨r, u, hv, hp, hb⟩, hF⟩, st⟩ | ⟨q, st₀, t, T', L, E, ce, h0, X', hL, e1, e2, ⟨u, hp, hb, hF⟩, hce, hcv, hcl, st⟩
  · cases hv
    obtain ⟨k1, k2, k3⟩ := vx_keep h0 e1 hS hA hf hL hF
    obtain ⟨t2, a1, b1⟩ := kk r u t T'.heap (locs ++ L) e1.symm (by rw [← e2]; exact X'.warmed.alike) hp hb k1 k2 k3 T' rfl X'
    exact ⟨t2, st t2 a1, b1⟩
  · obtain ⟨k1, k2, k3⟩ := vx_keep h0 e1 hS hAX hf hL hF
    obtain ⟨t2, a1, b1⟩ := kx E ce q u t T'.heap (locs ++ L) e1.symm (by rw [← e2]; exact X'.warmed.alike) hp hb k1 k2 k3 (by rw [e1]; exact hce) hcv hcl T' rfl X'
    exact ⟨t2, st.trans a1, b1⟩
theorem vx_callf {S SX : Type} {post : UInt32 → S → Prop} {px : SX → Prop} {B : S → State → Prop} {BX : String → SX → State → Prop} {AX : Nat → Prop} (hr : vx_Run p l e R s m args below meth c H locs cells slots mc ms (F0 m pc ls st0) rest (va_Qf post B A1 a) (vx_X px BX AX) free) (hS : va_S A0 H0 H locs) (hA : ∀ q, q < H.size → A1 q → A0 q) (hf : ∀ q, free q → A0 q) (hAX : ∀ q, q < H.size → AX q → A0 q)
    (kx : ∀ (E : String) (ce : Cell) (q9 : Addr) (u : SX) (t : State) (H1 : Heap) (locs1 : List Loc), t.heap = H1 → s.vm.Alike t.vm → px u → BX E u t → H.size ≤ H1.size → (∀ q : Nat, q < H.size → ¬ AX q → H1[q]? = H[q]?) → va_S A0 H0 H1 locs1 → H1[q9]? = some ce → ce.vm = .none → s.vm.findClass E = some ce.cls → vx_W p l e R s m args below meth c H1 locs1 (cells + mc) (slots + ms) Q (F0 m pc ls rest) q9)
    (kk : ∀ (r : UInt32) (u : S) (t : State) (H1 : Heap) (locs1 : List Loc), t.heap = H1 → s.vm.Alike t.vm → post r u → B u t → H.size ≤ H1.size → (∀ q : Nat, q < H.size → ¬ A1 q → H1[q]? = H[q]?) → va_S A0 H0 H1 locs1 → W p l e R s m args below meth c H1 locs1 (cells + mc) (slots + ms) Q (F0 m (pc + 3) ls (.float r :: rest))) : W p l e R s m args below meth c H locs cells slots Q (F0 m pc ls st0) := by
  intro T hT X
  rcases hr T hT X with ⟨v, st₀, t, T', L, h0, X', hL, e1, e2, ⟨⟨r, u, hv, hp, hb⟩, hF⟩, st⟩ | ⟨q, st₀, t, T', L, E, ce, h0, X', hL, e1, e2, ⟨u, hp, hb, hF⟩, hce, hcv, hcl, st⟩
  · cases hv
    obtain ⟨k1, k2, k3⟩ := vx_keep h0 e1 hS hA hf hL hF
    obtain ⟨t2, a1, b1⟩ := kk r u t T'.heap (locs ++ L) e1.symm (by rw [← e2]; exact X'.warmed.alike) hp hb k1 k2 k3 T' rfl X'
    exact ⟨t2, st t2 a1, b1⟩
  · obtain ⟨k1, k2, k3⟩ := vx_keep h0 e1 hS hAX hf hL hF
    obtain ⟨t2, a1, b1⟩ := kx E ce q u t T'.heap (locs ++ L) e1.symm (by rw [← e2]; exact X'.warmed.alike) hp hb k1 k2 k3 (by rw [e1]; exact hce) hcv hcl T' rfl X'
    exact ⟨t2, st.trans a1, b1⟩
theorem vx_calld {S SX : Type} {post : UInt64 → S → Prop} {px : SX → Prop} {B : S → State → Prop} {BX : String → SX → State → Prop} {AX : Nat → Prop} (hr : vx_Run p l e R s m args below meth c H locs cells slots mc ms (F0 m pc ls st0) rest (va_Qd post B A1 a) (vx_X px BX AX) free) (hS : va_S A0 H0 H locs) (hA : ∀ q, q < H.size → A1 q → A0 q) (hf : ∀ q, free q → A0 q) (hAX : ∀ q, q < H.size → AX q → A0 q)
    (kx : ∀ (E : String) (ce : Cell) (q9 : Addr) (u : SX) (t : State) (H1 : Heap) (locs1 : List Loc), t.heap = H1 → s.vm.Alike t.vm → px u → BX E u t → H.size ≤ H1.size → (∀ q : Nat, q < H.size → ¬ AX q → H1[q]? = H[q]?) → va_S A0 H0 H1 locs1 → H1[q9]? = some ce → ce.vm = .none → s.vm.findClass E = some ce.cls → vx_W p l e R s m args below meth c H1 locs1 (cells + mc) (slots + ms) Q (F0 m pc ls rest) q9)
    (kk : ∀ (r : UInt64) (u : S) (t : State) (H1 : Heap) (locs1 : List Loc), t.heap = H1 → s.vm.Alike t.vm → post r u → B u t → H.size ≤ H1.size → (∀ q : Nat, q < H.size → ¬ A1 q → H1[q]? = H[q]?) → va_S A0 H0 H1 locs1 → W p l e R s m args below meth c H1 locs1 (cells + mc) (slots + ms) Q (F0 m (pc + 3) ls (.double r :: rest))) : W p l e R s m args below meth c H locs cells slots Q (F0 m pc ls st0) := by
  intro T hT X
  rcases hr T hT X with ⟨v, st₀, t, T', L, h0, X', hL, e1, e2, ⟨⟨r, u, hv, hp, hb⟩, hF⟩, st⟩ | ⟨q, st₀, t, T', L, E, ce, h0, X', hL, e1, e2, ⟨u, hp, hb, hF⟩, hce, hcv, hcl, st⟩
  · cases hv
    obtain ⟨k1, k2, k3⟩ := vx_keep h0 e1 hS hA hf hL hF
    obtain ⟨t2, a1, b1⟩ := kk r u t T'.heap (locs ++ L) e1.symm (by rw [← e2]; exact X'.warmed.alike) hp hb k1 k2 k3 T' rfl X'
    exact ⟨t2, st t2 a1, b1⟩
  · obtain ⟨k1, k2, k3⟩ := vx_keep h0 e1 hS hAX hf hL hF
    obtain ⟨t2, a1, b1⟩ := kx E ce q u t T'.heap (locs ++ L) e1.symm (by rw [← e2]; exact X'.warmed.alike) hp hb k1 k2 k3 (by rw [e1]; exact hce) hcv hcl T' rfl X'
    exact ⟨t2, st.trans a1, b1⟩
theorem vx_callv {S SX : Type} {post : S → Prop} {px : SX → Prop} {B : S → State → Prop} {BX : String → SX → State → Prop} {AX : Nat → Prop} (hr : vx_Run p l e R s m args below meth c H locs cells slots mc ms (F0 m pc ls st0) rest (va_Qv post B A1 a) (vx_X px BX AX) free) (hS : va_S A0 H0 H locs) (hA : ∀ q, q < H.size → A1 q → A0 q) (hf : ∀ q, free q → A0 q) (hAX : ∀ q, q < H.size → AX q → A0 q)
    (kx : ∀ (E : String) (ce : Cell) (q9 : Addr) (u : SX) (t : State) (H1 : Heap) (locs1 : List Loc), t.heap = H1 → s.vm.Alike t.vm → px u → BX E u t → H.size ≤ H1.size → (∀ q : Nat, q < H.size → ¬ AX q → H1[q]? = H[q]?) → va_S A0 H0 H1 locs1 → H1[q9]? = some ce → ce.vm = .none → s.vm.findClass E = some ce.cls → vx_W p l e R s m args below meth c H1 locs1 (cells + mc) (slots + ms) Q (F0 m pc ls rest) q9)
    (kk : ∀ (u : S) (t : State) (H1 : Heap) (locs1 : List Loc), t.heap = H1 → s.vm.Alike t.vm → post u → B u t → H.size ≤ H1.size → (∀ q : Nat, q < H.size → ¬ A1 q → H1[q]? = H[q]?) → va_S A0 H0 H1 locs1 → W p l e R s m args below meth c H1 locs1 (cells + mc) (slots + ms) Q (F0 m (pc + 3) ls (rest))) : W p l e R s m args below meth c H locs cells slots Q (F0 m pc ls st0) := by
  intro T hT X
  rcases hr T hT X with ⟨v, st₀, t, T', L, h0, X', hL, e1, e2, ⟨⟨u, hv, hp, hb⟩, hF⟩, st⟩ | ⟨q, st₀, t, T', L, E, ce, h0, X', hL, e1, e2, ⟨u, hp, hb, hF⟩, hce, hcv, hcl, st⟩
  · cases hv
    obtain ⟨k1, k2, k3⟩ := vx_keep h0 e1 hS hA hf hL hF
    obtain ⟨t2, a1, b1⟩ := kk u t T'.heap (locs ++ L) e1.symm (by rw [← e2]; exact X'.warmed.alike) hp hb k1 k2 k3 T' rfl X'
    exact ⟨t2, st t2 a1, b1⟩
  · obtain ⟨k1, k2, k3⟩ := vx_keep h0 e1 hS hAX hf hL hF
    obtain ⟨t2, a1, b1⟩ := kx E ce q u t T'.heap (locs ++ L) e1.symm (by rw [← e2]; exact X'.warmed.alike) hp hb k1 k2 k3 (by rw [e1]; exact hce) hcv hcl T' rfl X'
    exact ⟨t2, st.trans a1, b1⟩
/-- caught by the row x of this method's table; the rows ahead don't take it -/
theorem vx_catch {own name : String} {E : String} {ce : Cell} {q : Addr} (hown : s.vm.findClass own = some m.cls) (pre : List ExceptionTableEntry) (x : ExceptionTableEntry) (suf : List ExceptionTableEntry) (hsplit : c.exceptionTable.toList = pre ++ x :: suf)
    (hpass : ∀ z ∈ pre, covers z pc = false ∨ (z.catchType ≠ 0 ∧ ∃ nm : String, (Cond.classLink own z.catchType nm).before args s = true ∧ va_Nc E nm s)) (hx : covers x pc = true) (h0 : x.catchType ≠ 0)
    (hlink : (Cond.classLink own x.catchType name).before args s = true) (hcast : (Cond.castable E name).before args s = true) (hcell : H[q]? = some ce) (hv : ce.vm = .none) (hcl : s.vm.findClass E = some ce.cls)
    (kk : W p l e R s m args below meth c H locs cells slots Q (F0 m x.handlerPc ls [.ref q])) : vx_W p l e R s m args below meth c H locs cells slots Q (F0 m pc ls rest) q := by
  intro T hT X
  have hpl : e.platform.magicAccessors = ({} : Platform).magicAccessors := by rw [X.admits.platform]
  obtain ⟨c3, c4, hc3, hc4, hasg⟩ := Cond.castable_spec hcast
  cases Option.some.inj (hc3.symm.trans hcl)
  obtain ⟨c5, hc5, hcl5⟩ := Cond.classLink_spec hown hlink e.platform hpl
  cases Option.some.inj (hc4.symm.trans hc5)
  obtain ⟨vm', X', st⟩ := X.thenCaughtThrough q (g := F0 m pc ls rest) rfl (Steps.refl _) (by rw [hT]; exact hcell) (by rw [hv]; rfl) (by obtain ⟨k9, h9, -⟩ := Vm.findClass_spec hcl; exact ⟨k9, h9⟩) pre x suf hsplit
    (fun z hz => by
      rcases hpass z hz with h | ⟨hz0, nm, hl1, hn1⟩
      · exact Or.inl h
      · obtain ⟨c6, hc6, hcl6⟩ := Cond.classLink_spec hown hl1 e.platform hpl
        obtain ⟨a8, b8, h1, h2, h3⟩ := hn1
        cases Option.some.inj (h1.symm.trans hcl)
        cases Option.some.inj (h2.symm.trans hc6)
        exact Or.inr ⟨hz0, _, hcl6, h3⟩) hx (Or.inr ⟨h0, c4, hcl5, hasg⟩)
  obtain ⟨t, a1, b1⟩ := kk (T.setVm vm') hT X'
  exact ⟨t, st.trans a1, b1⟩
end Rows
section Ends
variable {p : Program} {l : Launch} {e : Env} {R : Room} {s : State} {m : MethodId} {args : Array Value} {below : List Frame} {meth : Method} {c : Code} {H : Heap} {locs : List Loc} {cells slots : Nat} {Q : State → Prop}
variable {mc ms : Nat} {free : Addr → Prop} {A0 A1 : Nat → Prop} {H0 : Heap} {a : Array Value} {ls : Array Slot} {st0 rest : List Value}
variable {Qc : Array Value → State → Outcome → State → Prop} {XC : String → State → State → Prop}
/-- what a body that may throw owes at its end -/
def vx_MQ (below : List Frame) (Qc : Array Value → State → Outcome → State → Prop) (XC : String → State → State → Prop) (a : Array Value) (s : State) (mc ms : Nat) (free : Addr → Prop) : State → Prop := fun t =>
  ∃ o, t.status = .running ∧ Ended t below o ∧ vx_Q Qc XC mc ms free a s o t
theorem vx_ret {g : JFrame} {mc ms : Nat} (k : W p l e R s m args below meth c H locs cells slots (MQ below Qc args s mc ms free) g) : W p l e R s m args below meth c H locs cells slots (vx_MQ below Qc XC args s mc ms free) g := by
  intro T hT X
  obtain ⟨t, a1, o, b1, b2, b3, b4⟩ := k T hT X
  exact ⟨t, a1, o, b1, b2, Or.inl ⟨b3, b4⟩⟩
/-- not caught here: it goes on to the caller -/
theorem vx_widen {g : JFrame} {q : Addr} {k n : Nat} (h1 : cells ≤ k) (h2 : slots ≤ n) (kk : vx_W p l e R s m args below meth c H locs k n Q g q) : vx_W p l e R s m args below meth c H locs cells slots Q g q := fun T hT X => kk T hT (stand_widen X h1 h2)
theorem vx_out {pc : Nat} {E : String} {ce : Cell} {q : Addr} {mc ms : Nat} (hout : ∀ x ∈ c.exceptionTable.toList, covers x pc = false) (hlocks : meth.locks = false) (hcell : H[q]? = some ce) (hv : ce.vm = .none) (hcl : s.vm.findClass E = some ce.cls)
    (hx : ∀ t : State, t.heap = H → s.vm.Alike t.vm → XC E s t) (hf : ∀ z ∈ locs, free z.base) (hc : cells ≤ mc) (hs : slots ≤ ms) :
    vx_W p l e R s m args below meth c H locs cells slots (vx_MQ below Qc XC args s mc ms free) (F0 m pc ls rest) q := by
  intro T hT X
  obtain ⟨st1, hrun, hend, hW, hsm⟩ := X.leaveThrown q (g := F0 m pc ls rest) rfl rfl rfl hout hlocks
  have hcell9 : (T.setFrames (.throwing q :: below)).heap[q]? = some ce := by
    show T.heap[q]? = some ce
    rw [hT]; exact hcell
  exact ⟨_, st1, .threw q, hrun, hend, Or.inr ⟨q, rfl, E, ce, locs, hx _ hT hW.alike, hcell9, hv, hcl, hW, hsm.mono hc hs, hf⟩⟩
theorem vx_frame {U : State} {k n : Nat} (h : s.sameButNew ({ U with vm := s.vm } : State) locs k n) : s.heap.size ≤ U.heap.size ∧ ∀ q : Nat, q < s.heap.size → (∀ z ∈ locs, z.base ≠ q) → U.heap[q]? = s.heap[q]? := by
  obtain ⟨-, h2, -, -, -, h6⟩ := h
  refine ⟨h2, fun q hq hz => ?_⟩
  obtain ⟨c9, e1, e2, e3, e4⟩ := h6 q _ (Array.getElem?_eq_getElem hq)
  have hs : c9.slots = (s.heap[q]).slots := Array.ext_getElem? fun i => e4 i fun hm => hz _ hm rfl
  have h9 : c9 = s.heap[q] := by
    rw [hs] at e2
    exact e2
  have e5 : U.heap[q]? = some c9 := e1
  rw [e5, h9, Array.getElem?_eq_getElem hq]
/-- the words of a throw but the four that speak of the heap -/
def vx_no (w : Cond) : Bool := decide (w ≠ .isRef (.static Bundle.tN "UNASSIGNED_STACK" Bundle.steD)) && decide (w ≠ .isRef (.static Bundle.tN "SUPPRESSED_SENTINEL" Bundle.listD)) && decide (w ≠ .laysStatic Bundle.tN "UNASSIGNED_STACK" Bundle.steD) && decide (w ≠ .laysStatic Bundle.tN "SUPPRESSED_SENTINEL" Bundle.listD)
def vx_at0 (own : String) (ic : Nat) (X : String) (names : List String) : List Cond := (Bundle.ownAtoms0 own ic X names).filter vx_no
def vx_atS (own : String) (ic : Nat) (X : String) (names : List String) : List Cond := (Bundle.ownAtoms own ic X names).filter vx_no
/-- a word that the tables alone decide, or a good one -/
def vx_ot (w : Cond) : Bool := w.onTables || goodWord w
theorem vx_ot_at {args a' : Array Value} {s U : State} {w : Cond} (hW : s.WarmedH U.vm) (hvm : s.vm = U.vm) (hg : vx_ot w = true) (h : w.before args s = true) : w.before a' U = true := by
  simp only [vx_ot, Bool.or_eq_true] at hg
  rcases hg with hg | hg
  · exact va_tabs hg hvm h
  · exact word_at hW (good_of_word hg) h
/-- a list's words: the good ones out of the method's own list, the others by premises of their own -/
theorem vx_hat {args : Array Value} {s : State} {L B : List Cond} (h1 : ∀ w ∈ L.filter goodWord, w.before args s = true) (h2 : ∀ w ∈ L.filter (fun w => !goodWord w), w ∈ B) (h3 : ∀ w ∈ B, w.before args s = true) : ∀ w ∈ L, w.before args s = true := by
  intro w hw
  by_cases g : goodWord w = true
  · exact h1 w (List.mem_filter.mpr ⟨hw, g⟩)
  · refine h3 w (h2 w (List.mem_filter.mpr ⟨hw, ?_⟩))
    show (!goodWord w) = true
    cases hgw : goodWord w
    · rfl
    · exact absurd hgw g
theorem vx_c {args : Array Value} {s : State} {w : Cond} {B : List Cond} (h : w.before args s = true) (t : ∀ w ∈ B, w.before args s = true) : ∀ w' ∈ w :: B, w'.before args s = true := fun w' h' => (List.mem_cons.mp h').elim (fun e => by rw [e]; exact h) (t w')
theorem vx_n {args : Array Value} {s : State} : ∀ w ∈ ([] : List Cond), w.before args s = true := fun _ h => nomatch h
theorem vx_own {args : Array Value} {s : State} {L : List Cond} (h1 : ∀ w ∈ L.filter vx_no, w.before args s = true)
    (hU : (Cond.isRef (.static Bundle.tN "UNASSIGNED_STACK" Bundle.steD)).before args s = true) (hN : (Cond.isRef (.static Bundle.tN "SUPPRESSED_SENTINEL" Bundle.listD)).before args s = true)
    (lU : (Cond.laysStatic Bundle.tN "UNASSIGNED_STACK" Bundle.steD).before args s = true) (lN : (Cond.laysStatic Bundle.tN "SUPPRESSED_SENTINEL" Bundle.listD).before args s = true) : ∀ w ∈ L, w.before args s = true := by
  intro w hw
  by_cases e1 : w = .isRef (.static Bundle.tN "UNASSIGNED_STACK" Bundle.steD)
  · rw [e1]; exact hU
  · by_cases e2 : w = .isRef (.static Bundle.tN "SUPPRESSED_SENTINEL" Bundle.listD)
    · rw [e2]; exact hN
    · by_cases e3 : w = .laysStatic Bundle.tN "UNASSIGNED_STACK" Bundle.steD
      · rw [e3]; exact lU
      · by_cases e4 : w = .laysStatic Bundle.tN "SUPPRESSED_SENTINEL" Bundle.listD
        · rw [e4]; exact lN
        · exact h1 w (List.mem_filter.mpr ⟨hw, by unfold vx_no; rw [decide_eq_true e1, decide_eq_true e2, decide_eq_true e3, decide_eq_true e4]; rfl⟩)
/-- where a static field lies, its class's statics cell in H -/
def vx_L (C n d : String) (A : Nat → Prop) (U : State) (H : Heap) : Prop := ∃ (c : ClassId) (k : Class) (i : Nat) (f : Field) (a : Nat) (cell : Cell), U.vm.findClass C = some c ∧ U.fieldFound? C n d = some (c, k, i, f) ∧ f.isStatic = true ∧ k.statics = some a ∧ H[a]? = some cell ∧ cell.vm.isStatics = true ∧ cell.cls = c ∧ f.slot < cell.slots.size ∧ k.staticTypes[f.slot]? = some f.type ∧ ¬ A a
theorem vx_L.moved {C n d : String} {A : Nat → Prop} {u U : State} {H : Heap} (hvm : u.vm.Alike U.vm) (h : vx_L C n d A u H) : vx_L C n d A U H := by
  obtain ⟨c, k, i, f, a, cell, h1, h2, h3, h4, h5, h6, h7, h8, h9, h10⟩ := h
  obtain ⟨k', hi', he⟩ := State.fieldFound?_setVm hvm h2
  exact ⟨c, k', i, f, a, cell, by rw [hvm.findClass]; exact h1, hi', h3, by rw [he]; exact h4, h5, h6, h7, h8, by rw [he]; exact h9, h10⟩
theorem vx_L.kept {C n d : String} {A : Nat → Prop} {U : State} {H H1 : Heap} (h : vx_L C n d A U H) (hq : ∀ a : Nat, a < H.size → ¬ A a → H1[a]? = H[a]?) : vx_L C n d A U H1 := by
  obtain ⟨c, k, i, f, a, cell, h1, h2, h3, h4, h5, h6, h7, h8, h9, h10⟩ := h
  exact ⟨c, k, i, f, a, cell, h1, h2, h3, h4, by rw [hq a (Array.getElem?_eq_some_iff.mp h5).1 h10]; exact h5, h6, h7, h8, h9, h10⟩
theorem vx_L.narrow {C n d : String} {A B : Nat → Prop} {U : State} {H : Heap} (h : vx_L C n d A U H) (hAB : ∀ q, B q → A q) : vx_L C n d B U H := by
  obtain ⟨c, k, i, f, a, cell, h1, h2, h3, h4, h5, h6, h7, h8, h9, h10⟩ := h
  exact ⟨c, k, i, f, a, cell, h1, h2, h3, h4, h5, h6, h7, h8, h9, fun z => h10 (hAB _ z)⟩
theorem vx_L.word {C n d : String} {A : Nat → Prop} {s : State} {args : Array Value} (h : vx_L C n d A s s.heap) : (Cond.laysStatic C n d).before args s = true := by
  obtain ⟨c, k, i, f, a, cell, h1, h2, h3, h4, h5, h6, h7, h8, h9, -⟩ := h
  show (Cond.laysStatic C n d).holds args s none s [] = true
  exact Cond.laysStatic_of h1 h2 h3 h4 h5 h6 h7 h8 h9
/-- .. and what it holds: null or some reference -/
def vx_Zq (C n d : String) (A : Nat → Prop) (U : State) (H : Heap) : Prop := va_Zq C n d A U H ∧ vx_L C n d A U H
theorem vx_Zq.moved {C n d : String} {A : Nat → Prop} {u U : State} {H : Heap} (hvm : u.vm.Alike U.vm) (h : vx_Zq C n d A u H) : vx_Zq C n d A U H := ⟨va_Zq.moved hvm h.1, vx_L.moved hvm h.2⟩
theorem vx_Zq.kept {C n d : String} {A : Nat → Prop} {U : State} {H H1 : Heap} (h : vx_Zq C n d A U H) (hq : ∀ a : Nat, a < H.size → ¬ A a → H1[a]? = H[a]?) : vx_Zq C n d A U H1 := ⟨va_Zq.kept h.1 hq, vx_L.kept h.2 hq⟩
theorem vx_Zq.narrow {C n d : String} {A B : Nat → Prop} {U : State} {H : Heap} (h : vx_Zq C n d A U H) (hAB : ∀ q, B q → A q) : vx_Zq C n d B U H := ⟨va_Zq.narrow h.1 hAB, vx_L.narrow h.2 hAB⟩
theorem vx_Zqof {args : Array Value} {s : State} {C n d : String} {A : Nat → Prop} (hl : (Cond.laysStatic C n d).before args s = true) (hini : (Cond.initialized C).before args s = true) (h : (Cond.isRef (.static C n d)).before args s = true) (hA : ∀ a : Nat, a < s.heap.size → ¬ A a) : vx_Zq C n d A s s.heap := by
  refine ⟨va_Zqof hl hini h hA, ?_⟩
  obtain ⟨c, k, i, f, a, cell, h1, h2, h3, h4, h5, h6, h7, h8, h9⟩ := Cond.laysStatic_spec hl
  exact ⟨c, k, i, f, a, cell, h1, h2, h3, h4, h5, h6, h7, h8, h9, hA a (Array.getElem?_eq_some_iff.mp h5).1⟩
theorem vx_isRef {C n d : String} {v : Value} {A : Nat → Prop} {s : State} {args : Array Value} (h : va_Z C n d v A s s.heap) (hv : v.isRef = true) : (Cond.isRef (.static C n d)).before args s = true := by
  obtain ⟨cf, kf, fi, f, a, cell, h1, h2, h3, h4, h5, h6, h7, -⟩ := h
  have he : (Term.static C n d).eval args s none [] s = some v := by
    simp [Term.eval, State.fieldNamed?, h1, h2, h4, h5, h6, h7]
  simp only [Cond.before, Cond.holds, Cond.value, he]
  cases v <;> simp_all [Value.isRef]
theorem vx_isRefq {C n d : String} {A : Nat → Prop} {s : State} {args : Array Value} (h : va_Zq C n d A s s.heap) : (Cond.isRef (.static C n d)).before args s = true := by
  rcases h with h | ⟨t, h⟩
  · exact vx_isRef h rfl
  · exact vx_isRef h rfl
/-- the same frame, seen from here: as if the method were called anew in this heap -/
theorem vx_rebase {T : State} (X : Stand p l e R s m args below meth c T locs cells slots) {R' : Room} (hf : R'.frames ≤ R.frames) (hl : R'.locals ≤ R.locals) (hc : cells + R'.cells ≤ R.cells) (hs : slots + R'.slots ≤ R.slots) :
    Stand p l e R' ((T.setVm s.vm).setFrames (.invoking m args :: below)) m args below meth c T [] 0 0 := by
  have htop : (T.setVm s.vm).topJava?.isSome := X.here.top
  have hF : ((T.setVm s.vm).setFrames (.invoking m args :: below)).frames = .invoking m args :: below := State.frames_setFrames _ (State.cur_lt_of_top htop)
  obtain ⟨g₀, hg0⟩ := Option.isSome_iff_exists.mp htop
  obtain ⟨r, hr⟩ := State.topJava?_eq_some.mp hg0
  have hl9 : e.platform.stackLimits (T.setVm s.vm).me = e.platform.stackLimits s.me := X.limits
  have hb9 : (T.setVm s.vm).me.stackBytes = s.me.stackBytes := X.bytes
  refine ⟨X.admits, X.cas, X.clock, hF, ?_, X.hears, X.method, X.code, X.here, X.tail, X.warmed, ?_, ?_, ?_⟩
  · have h := X.room
    have hU : ((T.setVm s.vm).setFrames (.invoking m args :: below)).localsInUse = s.localsInUse := by
      rw [State.localsInUse_invoking hF (meth := meth) (c := c) X.method X.code, State.localsInUse_invoking X.frames X.method X.code]
    simp only [State.hasRoom, Bool.and_eq_true, decide_eq_true_eq] at h ⊢
    obtain ⟨⟨⟨⟨h1, h2, h3, h4, h5, h6⟩, h7⟩, h8⟩, h9⟩ := h
    rw [X.frames, List.length_cons] at h2 h3
    have q1 := X.heapSize
    have q2 := X.used
    simp only [hF, hU, List.length_cons, State.stackLimits_setFrames, State.stackBytes_setFrames, hl9, hb9]
    refine ⟨⟨⟨⟨by omega, by omega, by omega, by omega, by omega, h6⟩, ?_⟩, ?_⟩, X.book⟩
    · show T.heap.size + R'.cells ≤ e.platform.maxCells
      omega
    · show T.slotsUsed + R'.slots ≤ e.platform.maxSlots
      omega
  · rw [State.stackLimits_setFrames]; rfl
  · rw [State.stackBytes_setFrames]; rfl
  · refine ⟨?_, Nat.le_refl _, Nat.le_refl _, ?_, ?_, fun a c9 h9 => ⟨c9, h9, rfl, rfl, fun _ _ => rfl⟩⟩
    · obtain ⟨t, ht, -⟩ := State.frames_cons hr
      show T.setVm s.vm = { ((T.setVm s.vm).setFrames (.invoking m args :: below)).setFrames (T.setVm s.vm).frames with heap := T.heap, slotsUsed := T.slotsUsed }
      rw [State.setFrames_setFrames, State.setFrames_self ht]
      rfl
    · show T.slotsUsed = T.slotsUsed + ((T.heap.toList.drop T.heap.size).map (·.slots.size)).sum
      rw [List.drop_eq_nil_of_le (Nat.le_of_eq Array.length_toList)]
      rfl
    · show ((T.heap.toList.drop T.heap.size).map (·.slots.size)).sum ≤ 0
      rw [List.drop_eq_nil_of_le (Nat.le_of_eq Array.length_toList)]
      exact Nat.le_refl _
/-- 'throw new E()': new; dup; invokespecial; athrow -/
theorem vx_throw0 {cc : ByteArray} {pc : Nat} (hexec : p.tables.exec = Jvm.exec) (hb : c.code = cc) (hl : l.stackTraces = false) {own cls : String} {names : List String} {ik ic mc ms : Nat} {A : Nat → Prop}
    (hown : s.vm.findClass own = some m.cls) (hcls : Bundle.fit cls = true) (hnames : ∀ n ∈ names, Bundle.fit n = true)
    (hk : (Cond.classLink own ik cls).before args s = true) (hini : (Cond.initialized cls).before args s = true) (hat : ∀ w ∈ vx_at0 own ic cls names, w.before args s = true)
    (hgood : ∀ w ∈ Cond.classLink own ik cls :: Cond.initialized cls :: vx_at0 own ic cls names, vx_ot w = true)
    (hU : vx_Zq Bundle.tN "UNASSIGNED_STACK" Bundle.steD A s s.heap) (hN : vx_Zq Bundle.tN "SUPPRESSED_SENTINEL" Bundle.listD A s s.heap) (hS : va_S A s.heap H locs) (hsize : ls.size = c.maxLocals)
    (d0 : decode cc pc = .ok (.new ik, 3)) (d3 : decode cc (pc + 3) = .ok (.dup, 1)) (d4 : decode cc (pc + 4) = .ok (.invokespecial ic, 3)) (d7 : decode cc (pc + 7) = .ok (.athrow, 1))
    (hout : ∀ x ∈ c.exceptionTable.toList, covers x (pc + 7) = false)
    (hRframes : names.length + 3 < R.frames) (hRlocals : (rest.map fun v => v.category).sum + (13 * (names.length + 1) + 42) ≤ R.locals) (hRcells : cells + 1 ≤ R.cells) (hRslots : slots + 6 ≤ R.slots) (hlocks : meth.locks = false)
    (hx : ∀ t : State, s.vm.Alike t.vm → H.size ≤ t.heap.size → (∀ q : Nat, q < H.size → t.heap[q]? = H[q]?) → XC cls s t)
    (hf : ∀ z ∈ locs, free z.base) (hc : cells + 1 ≤ mc) (hs : slots + 6 ≤ ms) :
    W p l e R s m args below meth c H locs cells slots (vx_MQ below Qc XC args s mc ms free) (F0 m pc ls rest) := by
  intro T hT X
  have htr : e.platform.stackTraces = false := (show e.platform.stackTraces = l.stackTraces by rw [X.admits.platform]).trans hl
  have Y := vx_rebase X (R' := { frames := R.frames, locals := R.locals, cells := 1, slots := 6 }) (Nat.le_refl _) (Nat.le_refl _) hRcells hRslots
  obtain ⟨s', hA⟩ : ∃ z, z = (T.setVm s.vm).setFrames (.invoking m args :: below) := ⟨_, rfl⟩
  rw [← hA] at Y
  have hvm : s'.vm = s.vm := by rw [hA]; rfl
  have hhp : s'.heap = H := by rw [hA]; exact hT
  have hW0 : s.WarmedH s'.vm := by rw [hvm]; exact State.WarmedH.refl s
  have hat' : ∀ w ∈ vx_at0 own ic cls names, w.before args s' = true := fun w hw => vx_ot_at hW0 hvm.symm (hgood w (List.mem_cons_of_mem _ (List.mem_cons_of_mem _ hw))) (hat w hw)
  have hk' : (Cond.classLink own ik cls).before args s' = true := vx_ot_at hW0 hvm.symm (hgood _ List.mem_cons_self) hk
  have hini' : (Cond.initialized cls).before args s' = true := vx_ot_at hW0 hvm.symm (hgood _ (List.mem_cons_of_mem _ List.mem_cons_self)) hini
  have hU' : vx_Zq Bundle.tN "UNASSIGNED_STACK" Bundle.steD A s' s'.heap := by rw [hhp]; exact vx_Zq.moved hW0.alike (hU.kept hS.2.1)
  have hN' : vx_Zq Bundle.tN "SUPPRESSED_SENTINEL" Bundle.listD A s' s'.heap := by rw [hhp]; exact vx_Zq.moved hW0.alike (hN.kept hS.2.1)
  have h : ∀ w ∈ Bundle.ownAtoms0 own ic cls names, w.before args s' = true := vx_own hat' (vx_isRefq hU'.1) (vx_isRefq hN'.1) hU'.2.word hN'.2.word
  have hown' : s'.vm.findClass own = some m.cls := by rw [hvm]; exact hown
  have hins : (Cond.instantiable cls 6).before args s' = true := h _ (by simp [Bundle.ownAtoms0])
  obtain ⟨vm₁, cX, kX, hfX, hkX, -, -, X₁, st1⟩ := Y.newCold hexec (own := own) (C := cls) (index := ik) (n := 6) hown' hk' hins hini'
    (g := F0 m pc ls rest) rfl (by rw [hb]; exact d0) (Nat.le_refl _) (Nat.le_refl _)
  generalize hT1 : (T.setVm vm₁).pushCell { cls := cX, slots := kX.instanceTypes.map defaultValue, vm := .none } = T1 at X₁ st1
  have hcat : (Value.ref T.heap.size).category = 1 := rfl
  have hcellA : T1.heap[T.heap.size]? = some (freshCell cX kX) := by rw [← hT1]; exact State.heap_pushCell_size _ _
  have d3' : decode c.code (pc + 3) = .ok (.dup, 1) := by rw [hb]; exact d3
  obtain ⟨U, hsteps, hrun, hend, hW, hsame, ce, hce, hO⟩ := X₁.ctorThrow0 hexec htr (own := own) (cls := cls) (names := names) (ic := ic) hown' hcls hnames h (fun x hx => nomatch hx) hfX hkX hcellA (by rw [hhp, hT]; exact Nat.le_refl _)
    (g := { method := m, pc := pc + 4, locals := ls, stack := .ref T.heap.size :: .ref T.heap.size :: rest, locked := none }) rfl hsize rfl rfl (rest := rest) rfl
    (by rw [hb]; exact d4) (by rw [hb]; exact d7) hout hRframes (by simp only [List.map_cons, List.sum_cons, hcat]; omega) hlocks
  obtain ⟨f1, f2⟩ := vx_frame hsame
  rw [hhp] at f1 f2
  have hWs : s.WarmedH U.vm := State.WarmedH.trans hW0 hW
  have hcl : s.vm.findClass cls = some ce.cls := by
    have h9 := hO.cls
    rw [hvm] at h9
    exact h9
  have hall : s.sameButNew ({ U with vm := s.vm } : State) locs mc ms := by
    subst hA
    obtain ⟨e1, e2⟩ := hsame
    rw [State.setFrames_setFrames] at e1
    have h2 : (T.setVm s.vm).sameButNew ({ U with vm := s.vm } : State) [] (0 + 1) (0 + 6) := ⟨e1, e2⟩
    have h3 := X.same.trans h2
    rw [List.append_nil] at h3
    exact h3.mono hc hs
  refine ⟨U, ?_, .threw T.heap.size, hrun, hend, Or.inr ⟨T.heap.size, rfl, cls, ce, locs, hx U hWs.alike f1 (fun q hq => f2 q hq (fun z hz => nomatch hz)), hce, hO.vm, hcl, hWs, hall, hf⟩⟩
  refine st1 _ ?_
  show Steps p.tables e below (T1.setTop { method := m, pc := pc + 3, locals := ls, stack := .ref T.heap.size :: rest, locked := none }) _
  jvm_step X₁.here [X₁.here.top, hexec, d3', Value.category]
  exact hsteps
/-- 'throw new E("text")': new; dup; ldc; invokespecial; athrow -/
theorem vx_throwS {cc : ByteArray} {pc : Nat} (hexec : p.tables.exec = Jvm.exec) (hb : c.code = cc) (hl : l.stackTraces = false) {own cls text : String} {names : List String} {ik is ic mc ms sa : Nat} {A : Nat → Prop}
    (hown : s.vm.findClass own = some m.cls) (hcls : Bundle.fit cls = true) (hnames : ∀ n ∈ names, Bundle.fit n = true)
    (hk : (Cond.classLink own ik cls).before args s = true) (hini : (Cond.initialized cls).before args s = true) (hstr : vk_R own is text sa s) (hat : ∀ w ∈ vx_atS own ic cls names, w.before args s = true)
    (hgood : ∀ w ∈ Cond.classLink own ik cls :: Cond.initialized cls :: vx_atS own ic cls names, vx_ot w = true)
    (hU : vx_Zq Bundle.tN "UNASSIGNED_STACK" Bundle.steD A s s.heap) (hN : vx_Zq Bundle.tN "SUPPRESSED_SENTINEL" Bundle.listD A s s.heap) (hS : va_S A s.heap H locs) (hsize : ls.size = c.maxLocals)
    (d0 : decode cc pc = .ok (.new ik, 3)) (d3 : decode cc (pc + 3) = .ok (.dup, 1)) (d4 : decode cc (pc + 4) = .ok (.ldc is, 2)) (d6 : decode cc (pc + 6) = .ok (.invokespecial ic, 3)) (d9 : decode cc (pc + 9) = .ok (.athrow, 1))
    (hout : ∀ x ∈ c.exceptionTable.toList, covers x (pc + 9) = false)
    (hRframes : names.length + 3 < R.frames) (hRlocals : (rest.map fun v => v.category).sum + (13 * (names.length + 1) + 43) ≤ R.locals) (hRcells : cells + 1 ≤ R.cells) (hRslots : slots + 6 ≤ R.slots) (hlocks : meth.locks = false)
    (hx : ∀ t : State, s.vm.Alike t.vm → H.size ≤ t.heap.size → (∀ q : Nat, q < H.size → t.heap[q]? = H[q]?) → XC cls s t)
    (hf : ∀ z ∈ locs, free z.base) (hc : cells + 1 ≤ mc) (hs : slots + 6 ≤ ms) :
    W p l e R s m args below meth c H locs cells slots (vx_MQ below Qc XC args s mc ms free) (F0 m pc ls rest) := by
  intro T hT X
  have htr : e.platform.stackTraces = false := (show e.platform.stackTraces = l.stackTraces by rw [X.admits.platform]).trans hl
  have Y := vx_rebase X (R' := { frames := R.frames, locals := R.locals, cells := 1, slots := 6 }) (Nat.le_refl _) (Nat.le_refl _) hRcells hRslots
  obtain ⟨s', hA⟩ : ∃ z, z = (T.setVm s.vm).setFrames (.invoking m args :: below) := ⟨_, rfl⟩
  rw [← hA] at Y
  have hvm : s'.vm = s.vm := by rw [hA]; rfl
  have hhp : s'.heap = H := by rw [hA]; exact hT
  have hW0 : s.WarmedH s'.vm := by rw [hvm]; exact State.WarmedH.refl s
  have hat' : ∀ w ∈ vx_atS own ic cls names, w.before args s' = true := fun w hw => vx_ot_at hW0 hvm.symm (hgood w (List.mem_cons_of_mem _ (List.mem_cons_of_mem _ hw))) (hat w hw)
  have hk' : (Cond.classLink own ik cls).before args s' = true := vx_ot_at hW0 hvm.symm (hgood _ List.mem_cons_self) hk
  have hini' : (Cond.initialized cls).before args s' = true := vx_ot_at hW0 hvm.symm (hgood _ (List.mem_cons_of_mem _ List.mem_cons_self)) hini
  have hU' : vx_Zq Bundle.tN "UNASSIGNED_STACK" Bundle.steD A s' s'.heap := by rw [hhp]; exact vx_Zq.moved hW0.alike (hU.kept hS.2.1)
  have hN' : vx_Zq Bundle.tN "SUPPRESSED_SENTINEL" Bundle.listD A s' s'.heap := by rw [hhp]; exact vx_Zq.moved hW0.alike (hN.kept hS.2.1)
  have h : ∀ w ∈ Bundle.ownAtoms own ic cls names, w.before args s' = true := vx_own hat' (vx_isRefq hU'.1) (vx_isRefq hN'.1) hU'.2.word hN'.2.word
  have hown' : s'.vm.findClass own = some m.cls := by rw [hvm]; exact hown
  have hins : (Cond.instantiable cls 6).before args s' = true := h _ (by simp [Bundle.ownAtoms])
  obtain ⟨vm₁, cX, kX, hfX, hkX, -, -, X₁, st1⟩ := Y.newCold hexec (own := own) (C := cls) (index := ik) (n := 6) hown' hk' hins hini'
    (g := F0 m pc ls rest) rfl (by rw [hb]; exact d0) (Nat.le_refl _) (Nat.le_refl _)
  generalize hT1 : (T.setVm vm₁).pushCell { cls := cX, slots := kX.instanceTypes.map defaultValue, vm := .none } = T1 at X₁ st1
  have hcat : (Value.ref T.heap.size).category = 1 := rfl
  have hcellA : T1.heap[T.heap.size]? = some (freshCell cX kX) := by rw [← hT1]; exact State.heap_pushCell_size _ _
  have d3' : decode c.code (pc + 3) = .ok (.dup, 1) := by rw [hb]; exact d3
  have d4' : decode c.code (pc + 4) = .ok (.ldc is, 2) := by rw [hb]; exact d4
  have hstr' : vk_R own is text sa s' := vk_R.warm hW0 hstr
  obtain ⟨U, hsteps, hrun, hend, hW, hsame, ce, hce, hO⟩ := X₁.ctorThrowS hexec htr (own := own) (cls := cls) (names := names) (ic := ic) hown' hcls hnames h (fun x hx => nomatch hx) hfX hkX hcellA (by rw [hhp, hT]; exact Nat.le_refl _) (msg := .ref sa) rfl
    (g := { method := m, pc := pc + 6, locals := ls, stack := .ref sa :: .ref T.heap.size :: .ref T.heap.size :: rest, locked := none }) rfl hsize rfl rfl (rest := rest) rfl
    (by rw [hb]; exact d6) (by rw [hb]; exact d9) hout hRframes (by simp only [List.map_cons, List.sum_cons, hcat]; omega) hlocks
  obtain ⟨f1, f2⟩ := vx_frame hsame
  rw [hhp] at f1 f2
  have hWs : s.WarmedH U.vm := State.WarmedH.trans hW0 hW
  have hcl : s.vm.findClass cls = some ce.cls := by
    have h9 := hO.cls
    rw [hvm] at h9
    exact h9
  have hall : s.sameButNew ({ U with vm := s.vm } : State) locs mc ms := by
    subst hA
    obtain ⟨e1, e2⟩ := hsame
    rw [State.setFrames_setFrames] at e1
    have h2 : (T.setVm s.vm).sameButNew ({ U with vm := s.vm } : State) [] (0 + 1) (0 + 6) := ⟨e1, e2⟩
    have h3 := X.same.trans h2
    rw [List.append_nil] at h3
    exact h3.mono hc hs
  refine ⟨U, ?_, .threw T.heap.size, hrun, hend, Or.inr ⟨T.heap.size, rfl, cls, ce, locs, hx U hWs.alike f1 (fun q hq => f2 q hq (fun z hz => nomatch hz)), hce, hO.vm, hcl, hWs, hall, hf⟩⟩
  refine st1 _ ?_
  show Steps p.tables e below (T1.setTop { method := m, pc := pc + 3, locals := ls, stack := .ref T.heap.size :: rest, locked := none }) _
  jvm_step X₁.here [X₁.here.top, hexec, d3', Value.category]
  exact X₁.ldcString hexec (own := own) (text := text) (index := is) (a := sa) hown' hstr'.1 hstr'.2
    (g := { method := m, pc := pc + 4, locals := ls, stack := .ref T.heap.size :: .ref T.heap.size :: rest, locked := none }) rfl d4' _ hsteps
/-- 'throw new E("text")', the text by a wide index -/
theorem vx_throwSW {cc : ByteArray} {pc : Nat} (hexec : p.tables.exec = Jvm.exec) (hb : c.code = cc) (hl : l.stackTraces = false) {own cls text : String} {names : List String} {ik is ic mc ms sa : Nat} {A : Nat → Prop}
    (hown : s.vm.findClass own = some m.cls) (hcls : Bundle.fit cls = true) (hnames : ∀ n ∈ names, Bundle.fit n = true)
    (hk : (Cond.classLink own ik cls).before args s = true) (hini : (Cond.initialized cls).before args s = true) (hstr : vk_R own is text sa s) (hat : ∀ w ∈ vx_atS own ic cls names, w.before args s = true)
    (hgood : ∀ w ∈ Cond.classLink own ik cls :: Cond.initialized cls :: vx_atS own ic cls names, vx_ot w = true)
    (hU : vx_Zq Bundle.tN "UNASSIGNED_STACK" Bundle.steD A s s.heap) (hN : vx_Zq Bundle.tN "SUPPRESSED_SENTINEL" Bundle.listD A s s.heap) (hS : va_S A s.heap H locs) (hsize : ls.size = c.maxLocals)
    (d0 : decode cc pc = .ok (.new ik, 3)) (d3 : decode cc (pc + 3) = .ok (.dup, 1)) (d4 : decode cc (pc + 4) = .ok (.ldc_w is, 3)) (d7 : decode cc (pc + 7) = .ok (.invokespecial ic, 3)) (d10 : decode cc (pc + 10) = .ok (.athrow, 1))
    (hout : ∀ x ∈ c.exceptionTable.toList, covers x (pc + 10) = false)
    (hRframes : names.length + 3 < R.frames) (hRlocals : (rest.map fun v => v.category).sum + (13 * (names.length + 1) + 43) ≤ R.locals) (hRcells : cells + 1 ≤ R.cells) (hRslots : slots + 6 ≤ R.slots) (hlocks : meth.locks = false)
    (hx : ∀ t : State, s.vm.Alike t.vm → H.size ≤ t.heap.size → (∀ q : Nat, q < H.size → t.heap[q]? = H[q]?) → XC cls s t)
    (hf : ∀ z ∈ locs, free z.base) (hc : cells + 1 ≤ mc) (hs : slots + 6 ≤ ms) :
    W p l e R s m args below meth c H locs cells slots (vx_MQ below Qc XC args s mc ms free) (F0 m pc ls rest) := by
  intro T hT X
  have htr : e.platform.stackTraces = false := (show e.platform.stackTraces = l.stackTraces by rw [X.admits.platform]).trans hl
  have Y := vx_rebase X (R' := { frames := R.frames, locals := R.locals, cells := 1, slots := 6 }) (Nat.le_refl _) (Nat.le_refl _) hRcells hRslots
  obtain ⟨s', hA⟩ : ∃ z, z = (T.setVm s.vm).setFrames (.invoking m args :: below) := ⟨_, rfl⟩
  rw [← hA] at Y
  have hvm : s'.vm = s.vm := by rw [hA]; rfl
  have hhp : s'.heap = H := by rw [hA]; exact hT
  have hW0 : s.WarmedH s'.vm := by rw [hvm]; exact State.WarmedH.refl s
  have hat' : ∀ w ∈ vx_atS own ic cls names, w.before args s' = true := fun w hw => vx_ot_at hW0 hvm.symm (hgood w (List.mem_cons_of_mem _ (List.mem_cons_of_mem _ hw))) (hat w hw)
  have hk' : (Cond.classLink own ik cls).before args s' = true := vx_ot_at hW0 hvm.symm (hgood _ List.mem_cons_self) hk
  have hini' : (Cond.initialized cls).before args s' = true := vx_ot_at hW0 hvm.symm (hgood _ (List.mem_cons_of_mem _ List.mem_cons_self)) hini
  have hU' : vx_Zq Bundle.tN "UNASSIGNED_STACK" Bundle.steD A s' s'.heap := by rw [hhp]; exact vx_Zq.moved hW0.alike (hU.kept hS.2.1)
  have hN' : vx_Zq Bundle.tN "SUPPRESSED_SENTINEL" Bundle.listD A s' s'.heap := by rw [hhp]; exact vx_Zq.moved hW0.alike (hN.kept hS.2.1)
  have h : ∀ w ∈ Bundle.ownAtoms own ic cls names, w.before args s' = true := vx_own hat' (vx_isRefq hU'.1) (vx_isRefq hN'.1) hU'.2.word hN'.2.word
  have hown' : s'.vm.findClass own = some m.cls := by rw [hvm]; exact hown
  have hins : (Cond.instantiable cls 6).before args s' = true := h _ (by simp [Bundle.ownAtoms])
  obtain ⟨vm₁, cX, kX, hfX, hkX, -, -, X₁, st1⟩ := Y.newCold hexec (own := own) (C := cls) (index := ik) (n := 6) hown' hk' hins hini'
    (g := F0 m pc ls rest) rfl (by rw [hb]; exact d0) (Nat.le_refl _) (Nat.le_refl _)
  generalize hT1 : (T.setVm vm₁).pushCell { cls := cX, slots := kX.instanceTypes.map defaultValue, vm := .none } = T1 at X₁ st1
  have hcat : (Value.ref T.heap.size).category = 1 := rfl
  have hcellA : T1.heap[T.heap.size]? = some (freshCell cX kX) := by rw [← hT1]; exact State.heap_pushCell_size _ _
  have d3' : decode c.code (pc + 3) = .ok (.dup, 1) := by rw [hb]; exact d3
  have d4' : decode c.code (pc + 4) = .ok (.ldc_w is, 3) := by rw [hb]; exact d4
  have hstr' : vk_R own is text sa s' := vk_R.warm hW0 hstr
  obtain ⟨U, hsteps, hrun, hend, hW, hsame, ce, hce, hO⟩ := X₁.ctorThrowS hexec htr (own := own) (cls := cls) (names := names) (ic := ic) hown' hcls hnames h (fun x hx => nomatch hx) hfX hkX hcellA (by rw [hhp, hT]; exact Nat.le_refl _) (msg := .ref sa) rfl
    (g := { method := m, pc := pc + 7, locals := ls, stack := .ref sa :: .ref T.heap.size :: .ref T.heap.size :: rest, locked := none }) rfl hsize rfl rfl (rest := rest) rfl
    (by rw [hb]; exact d7) (by rw [hb]; exact d10) hout hRframes (by simp only [List.map_cons, List.sum_cons, hcat]; omega) hlocks
  obtain ⟨f1, f2⟩ := vx_frame hsame
  rw [hhp] at f1 f2
  have hWs : s.WarmedH U.vm := State.WarmedH.trans hW0 hW
  have hcl : s.vm.findClass cls = some ce.cls := by
    have h9 := hO.cls
    rw [hvm] at h9
    exact h9
  have hall : s.sameButNew ({ U with vm := s.vm } : State) locs mc ms := by
    subst hA
    obtain ⟨e1, e2⟩ := hsame
    rw [State.setFrames_setFrames] at e1
    have h2 : (T.setVm s.vm).sameButNew ({ U with vm := s.vm } : State) [] (0 + 1) (0 + 6) := ⟨e1, e2⟩
    have h3 := X.same.trans h2
    rw [List.append_nil] at h3
    exact h3.mono hc hs
  refine ⟨U, ?_, .threw T.heap.size, hrun, hend, Or.inr ⟨T.heap.size, rfl, cls, ce, locs, hx U hWs.alike f1 (fun q hq => f2 q hq (fun z hz => nomatch hz)), hce, hO.vm, hcl, hWs, hall, hf⟩⟩
  refine st1 _ ?_
  show Steps p.tables e below (T1.setTop { method := m, pc := pc + 3, locals := ls, stack := .ref T.heap.size :: rest, locked := none }) _
  jvm_step X₁.here [X₁.here.top, hexec, d3', Value.category]
  exact X₁.ldcStringW hexec (own := own) (text := text) (index := is) (a := sa) hown' hstr'.1 hstr'.2
    (g := { method := m, pc := pc + 4, locals := ls, stack := .ref T.heap.size :: .ref T.heap.size :: rest, locked := none }) rfl d4' _ hsteps
end Ends
section Bodies
variable {l : Launch}
theorem vx_ofW {y : MethodName} {ws ws' : List Cond} {rm : Room} {Pc : Array Value → State → Prop} {Qc : Array Value → State → Outcome → State → Prop} {XC : String → State → State → Prop} {mc ms : Nat} {free : Addr → Prop} {cc : ByteArray} {maxL : Nat} {ret : Option FieldType}
    (hy : plainName y.cls = true) (hw : ws = Cond.code y cc maxL ret :: ws')
    (body : ∀ p e s m args below meth c s₁, BodyLoose p l y (headSpec ws rm) cc maxL ret e s m args below meth c s₁ → c.maxLocals = maxL → (∀ x ∈ c.exceptionTable.toList, False) → Pc args s →
      W p l e (headSpec ws rm).room s m args below meth c s.heap [] 0 0 (vx_MQ below Qc XC args s mc ms free) (entryFrame m args maxL)) : vx_Met l y ws rm Pc Qc XC mc ms free := by
  refine MetFree.of_bodyS (code := cc) (maxLocals := maxL) (ret := ret) hy ?_ ?_
  · intro args s m h hn
    obtain ⟨meth, c, h1, h2, h3, h4, h5, h6, -, -⟩ := Cond.code_spec hn (atoms_spec (ws := ws) h _ (by rw [hw]; exact List.mem_cons_self))
    exact ⟨meth, c, h1, h2, h3, h4, h5, h6⟩
  · intro p e s m args below meth c s₁ B hml hP _
    have hh0 : s₁.heap = s.heap := by rw [B.state]; rfl
    have ht : ∀ x ∈ c.exceptionTable.toList, False := by
      obtain ⟨meth9, c9, h1, h2, -, -, -, -, h7, -⟩ := Cond.code_spec B.named (atoms_spec (ws := ws) B.pre _ (by rw [hw]; exact List.mem_cons_self))
      cases Option.some.inj (h1.symm.trans B.method)
      cases Option.some.inj (h2.symm.trans (Stand.of_body B).code)
      intro x hx
      rw [Array.isEmpty_iff.mp h7] at hx
      cases hx
    obtain ⟨t, a1, o, b1, b2, b3⟩ := body p e s m args below meth c s₁ B hml ht hP s₁ hh0 (Stand.of_body B)
    exact ⟨t, o, a1, b1, b2, b3⟩
/-- the table of a body with handlers -/
theorem vx_table {p : Program} {x y : MethodName} {S : Spec} {cc bytes : ByteArray} {maxL maxL' : Nat} {ret ret' : Option FieldType} {e : Env} {s s₁ : State} {m : MethodId} {args : Array Value} {below : List Frame} {meth : Method} {c : Code} {hh : List (Nat × Nat × Nat × Nat)}
    (B : BodyLoose p l y S cc maxL ret e s m args below meth c s₁) (h : (Cond.codeWith y bytes maxL' ret' hh).before args s = true) : c.exceptionTable.toList = tableOf hh := by
  obtain ⟨m9, meth9, c9, hn9, h1, h2, -, -, h6, -⟩ := Cond.codeWith_spec h
  cases Option.some.inj (hn9.symm.trans B.named)
  cases Option.some.inj (h1.symm.trans B.method)
  cases Option.some.inj (h2.symm.trans (Stand.of_body B).code)
  rw [← h6, table_eq]
end Bodies
end VXA
/-! ===== END ===== -/
/-! ===== BEGIN a static call of a method with an exception table ===== -/
section VXS
variable {p : Program} {l : Launch} {e : Env} {R : Room} {s : State} {m : MethodId} {args : Array Value} {below : List Frame} {meth : Method} {c : Code} {T : State} {H : Heap} {locs : List Loc} {cells slots : Nat}
abbrev vx_CSW (R : Room) (s : State) (args : Array Value) (own : String) (index : Nat) (y : MethodName) (bytes : ByteArray) (maxL : Nat) (ret : Option FieldType) (hh : List (Nat × Nat × Nat × Nat)) (ws : List Cond) (rm : Room) (mc ms n : Nat) : Prop :=
  (rm.cells = mc ∧ rm.slots = ms ∧ rm.frames + 1 ≤ R.frames ∧ 8 + (maxL + 11) + rm.locals ≤ R.locals ∧ (∀ w ∈ ws, ∀ (a' : Array Value) (U : State), s.WarmedH U.vm → w.before a' U = true) ∧ Cond.codeWith y bytes maxL ret hh ∈ ws) ∧
  (Cond.codeWith y bytes maxL ret hh).before args s = true ∧ (Cond.initialized y.cls).before args s = true ∧ (y.cls ≠ "java/lang/invoke/MethodHandle" ∧ y.cls ≠ "java/lang/invoke/VarHandle") ∧
  (∀ sig, parseMethodDescriptor y.desc = some sig → n = sig.parameters.length) ∧ (Cond.methodLink own index y).before args s = true ∧ (Cond.static y).before args s = true
theorem vx_cwSW {own : String} {index maxL mc ms : Nat} {y : MethodName} {bytes : ByteArray} {ret : Option FieldType} {hh : List (Nat × Nat × Nat × Nat)} {Ts ws ws' : List Cond} {rm : Room} (n : Nat) (ht : ∀ w ∈ Ts, w.before args s = true) (hT : GoodIn Ts (va_wsS own index y ws)) (hw : ws = Cond.codeWith y bytes maxL ret hh :: ws') (hrc : rm.cells = mc) (hrs : rm.slots = ms)
    (hd : y.cls ≠ "java/lang/invoke/MethodHandle" ∧ y.cls ≠ "java/lang/invoke/VarHandle" ∧ (parseMethodDescriptor y.desc).map (fun d => d.parameters.length) = some n) (hR : rm.frames + 1 ≤ R.frames ∧ 8 + (maxL + 11) + rm.locals ≤ R.locals) :
    vx_CSW R s args own index y bytes maxL ret hh ws rm mc ms n := by
  have ok : ∀ w ∈ va_wsS own index y ws, w.before args s = true := fun w h => ht w (hT w h).1
  have hG : GoodIn Ts ws := fun w h => hT w (by unfold va_wsS; exact List.mem_append_right _ h)
  have hc : Cond.codeWith y bytes maxL ret hh ∈ ws := by rw [hw]; exact List.mem_cons_self
  refine ⟨⟨hrc, hrs, hR.1, hR.2, pay_in ht hG, hc⟩, ht _ (hG _ hc).1, ok _ (by simp [va_wsS]), ⟨hd.1, hd.2.1⟩, fun sig h => ?_, ok _ (by simp [va_wsS]), ok _ (by simp [va_wsS])⟩
  have h2 := hd.2.2
  rw [h] at h2
  exact (Option.some.inj h2).symm
theorem vx_callSW (X : Stand p l e R s m args below meth c T locs cells slots) (hexec : p.tables.exec = Jvm.exec) {own : String} {index : Nat} {y : MethodName} {bytes : ByteArray} {maxL : Nat} {ret : Option FieldType} {hh : List (Nat × Nat × Nat × Nat)}
    (hown : s.vm.findClass own = some m.cls) (hlink : (Cond.methodLink own index y).before args s = true) (hstat : (Cond.static y).before args s = true) (hinit : (Cond.initialized y.cls).before args s = true)
    (hcode : (Cond.codeWith y bytes maxL ret hh).before args s = true) (hy : y.cls ≠ "java/lang/invoke/MethodHandle" ∧ y.cls ≠ "java/lang/invoke/VarHandle")
    {W9 : Nat} {Pre : Pt → Array Value → Prop} {Post : Pt → Array Value → Option Value → Pt → Prop} (hK : Back l R p e below s args y 3 W9 Pre Post)
    {g : JFrame} (hg : g.method = m) (hsize : g.locals.size = c.maxLocals) {argsL rest : List Value} (hlen : ∀ sig, parseMethodDescriptor y.desc = some sig → argsL.length = sig.parameters.length)
    (hstack : g.stack = argsL.reverse ++ rest) (hW : 2 * g.monitorRoom + (rest.map fun v => v.category).sum ≤ W9) (hdg : decode c.code g.pc = .ok (.invokestatic index, 3))
    (hpre : ∀ vm₁, s.WarmedH vm₁ → Pre ⟨T.setVm vm₁, locs, cells, slots⟩ argsL.toArray) :
    ∃ (v : Option Value) (vm₁ : Vm) (B : Pt), s.WarmedH vm₁ ∧ Stand p l e R s m args below meth c B.U B.locs B.cells B.slots ∧ Post ⟨T.setVm vm₁, locs, cells, slots⟩ argsL.toArray v B ∧
      ∀ target, Steps p.tables e below (B.U.setTop { g with pc := g.pc + 3, stack := v.toList ++ rest }) target → Steps p.tables e below (T.setTop g) target := by
  obtain ⟨mk, methM, cM, hnamed, hmethM, -, -, -, -, -, -, hsigM⟩ := Cond.codeWith_spec hcode
  have hstatic : methM.isStatic = true := Cond.static_spec hnamed hmethM hstat
  obtain ⟨kP, hkP, -⟩ := className_of_methodNamed hnamed
  have hinitP : kP.init = .initialized := Cond.initialized_spec (findClass_of_methodNamed hnamed) hkP hinit
  obtain ⟨vm₁, X₁, hstep₁⟩ := X.invokestatic hexec hown hlink hnamed hmethM hstatic hkP hinitP hy (g := g) hg (argsL := argsL) (rest := rest) (hlen _ hsigM) hstack hdg
  obtain ⟨v, B, X', hpost, hsteps⟩ := hK m meth c ⟨T.setVm vm₁, locs, cells, slots⟩ { g with stack := rest } (.invokestatic index) mk argsL.toArray X₁ hg hsize hdg hW (X₁.named hnamed) (hpre vm₁ X₁.warmed)
  exact ⟨v, vm₁, B, X₁.warmed, X', hpost, fun target h => hstep₁ _ fun acts => by rw [doInvoke_state]; exact hsteps.trans h⟩
theorem vx_runSW {y : MethodName} {bytes cc : ByteArray} {maxL nL mc ms n index : Nat} {ret : Option FieldType} {hh : List (Nat × Nat × Nat × Nat)} {ws : List Cond} {rm : Room} {Pc : Array Value → State → Prop} {Qc : Array Value → State → Outcome → State → Prop} {free : Addr → Prop} {Ts : List Cond} {own : String} {As rest : List Value} {g : JFrame}
    (S : CallFix p m c cc nL s args Ts own) (hM : Met l y ws rm Pc Qc mc ms free) (cw : vx_CSW R s args own index y bytes maxL ret hh ws rm mc ms n) (hp : PreS s H Pc As)
    (hg : g.method = m) (hn : As.length = n) (hsize : g.locals.size = nL) (hstack : g.stack = As.reverse ++ rest) (hW : 2 * g.monitorRoom + (rest.map fun v => v.category).sum ≤ 8) (hdg : decode cc g.pc = .ok (.invokestatic index, 3)) (hf : cells + mc ≤ R.cells ∧ slots + ms ≤ R.slots) :
    va_Run p l e R s m args below meth c H locs cells slots mc ms g rest (Qc As.toArray) (free) := by
  obtain ⟨⟨hrc, hrs, hfr, hlo, hws, hcw⟩, hcode, hini, hy, hlen, hl, hstt⟩ := cw
  have hK : Back l R p e below s args y 3 8 (PreOf R mc ms Pc) (PostOf Qc mc ms free) := va_backW (hh := hh) (bytes := bytes) (maxL := maxL) (ret := ret) hM hp.1 hrc hrs hfr hlo hws hcw (fun a' U hW => word_at hW (Or.inl (by first | rfl | simp [Cond.onTables, Cond.keeps, Cond.steady])) hini)
  obtain ⟨hx, hb, hml, ho, -⟩ := S
  intro T hT X
  obtain ⟨v, vm₁, ⟨U', l2, c2, s2⟩, hW₁, X', ⟨g', mk, t, L, e1, e2, hq, h1, hL, h2, h3⟩, st⟩ := vx_callSW X hx (hh := hh) (bytes := bytes) (maxL := maxL) (ret := ret) ho hl hstt hini hcode hy hK hg (hsize.trans hml.symm) (argsL := As) (rest := rest) (fun sig h => hn.trans (hlen sig h)) hstack hW (by rw [hb]; exact hdg)
    (fun vm₁ hW₁ => ⟨hf.1, hf.2, hp.2 (T.setVm vm₁) hT hW₁⟩)
  dsimp only [Pt.U, Pt.locs, Pt.cells, Pt.slots] at X' e1 e2 h1 h2 h3 st
  subst h1; subst h2; subst h3
  exact ⟨v, (T.setVm vm₁).calling g' mk As.toArray, t, U', L, hT, X', hL, e1, e2, hq, st⟩
/-- not caught here, past rows that name other classes: it goes on to the caller -/
theorem vx_outP {p : Program} {l : Launch} {e : Env} {R : Room} {s : State} {m : MethodId} {args : Array Value} {below : List Frame} {meth : Method} {c : Code} {H : Heap} {locs : List Loc} {cells slots : Nat} {free : Addr → Prop} {ls : Array Slot} {rest : List Value} {Qc : Array Value → State → Outcome → State → Prop} {XC : String → State → State → Prop}
    {pc : Nat} {own E : String} {ce : Cell} {q : Addr} {mc ms : Nat} (hown : s.vm.findClass own = some m.cls) (hlocks : meth.locks = false)
    (hpass : ∀ z ∈ c.exceptionTable.toList, covers z pc = false ∨ (z.catchType ≠ 0 ∧ ∃ nm : String, (Cond.classLink own z.catchType nm).before args s = true ∧ va_Nc E nm s)) (hcell : H[q]? = some ce) (hv : ce.vm = .none) (hcl : s.vm.findClass E = some ce.cls)
    (hx : ∀ t : State, t.heap = H → s.vm.Alike t.vm → XC E s t) (hf : ∀ z ∈ locs, free z.base) (hc : cells ≤ mc) (hs : slots ≤ ms) :
    vx_W p l e R s m args below meth c H locs cells slots (vx_MQ below Qc XC args s mc ms free) (F0 m pc ls rest) q := by
  intro T hT X
  have hpl : e.platform.magicAccessors = ({} : Platform).magicAccessors := by rw [X.admits.platform]
  obtain ⟨vm', hW', X', st⟩ := X.outThrough hlocks q (g := F0 m pc ls rest) rfl rfl rfl (cell := ce) (by rw [hT]; exact hcell) (by rw [hv]; rfl)
    (by obtain ⟨k9, h9, -⟩ := Vm.findClass_spec hcl; exact ⟨k9, h9⟩) (fun z hz => by
      rcases hpass z hz with h | ⟨hz0, nm, hl1, hn1⟩
      · exact Or.inl h
      · obtain ⟨c6, hc6, hcl6⟩ := Cond.classLink_spec hown hl1 e.platform hpl
        obtain ⟨a8, b8, h1, h2, h3⟩ := hn1
        cases Option.some.inj (h1.symm.trans hcl)
        cases Option.some.inj (h2.symm.trans hc6)
        exact Or.inr ⟨hz0, _, hcl6, h3⟩)
  obtain ⟨g₀, hfr⟩ := X'.frames_eq
  have hcell9 : ((T.setVm vm').setFrames (.throwing q :: below)).heap[q]? = some ce := by
    show T.heap[q]? = some ce
    rw [hT]; exact hcell
  have hend : Ended ((T.setVm vm').setFrames (.throwing q :: below)) below (.threw q) := State.frames_setFrames _ (State.cur_lt_of_frames hfr)
  refine ⟨(T.setVm vm').setFrames (.throwing q :: below), ?_, .threw q, X'.here.running, hend, Or.inr ⟨q, rfl, E, ce, locs, hx _ hT (X'.ends _).1.alike, hcell9, hv, hcl, (X'.ends _).1, (X'.ends _).2.mono hc hs, hf⟩⟩
  rw [X.pushThrowing_eq]
  exact st
/-- a thing of a world lies in the heap -/
theorem vx_lt {D : va_G} {cl : List vw_C} {ws : va_W} {H1 : Heap} (h : va_P D cl ws H1) {k : Nat} {q : Nat × va_E} (hk : ws[k]? = some q) : q.1 < H1.size := (h k q hk).lt
end VXS
/-! ===== END ===== -/
/-! ===== BEGIN methods with a table of their own: called by a name, returning or throwing ===== -/
section VXH
/-! vx_backW, vx_callVX, vx_callSX, vx_callVW, vx_runVW, vx_runVX, vx_runSX, vx_ofWH follow the same proofs as their sisters above (Free/Laws.lean, Shelf42/LK1.lean); vx_outP calls Shelf42/NT130.lean (outThrough). -/
section
variable {l : Launch} {R : Room} {p : Program} {e : Env} {below : List Frame} {s : State} {sargs : Array Value} {y : MethodName} {len W9 : Nat}
theorem vx_backW {ws : List Cond} {rm : Room} {Pc : Array Value → State → Prop} {Qc : Array Value → State → Outcome → State → Prop} {XC : String → State → State → Prop} {mc ms : Nat} {free : Addr → Prop} {bytes : ByteArray} {maxL : Nat} {ret : Option FieldType} {hh : List (Nat × Nat × Nat × Nat)}
    (hM : vx_Met l y ws rm Pc Qc XC mc ms free) (hblind : FrameBlind Pc) (hrc : rm.cells = mc) (hrs : rm.slots = ms)
    (hframes : rm.frames + 1 ≤ R.frames) (hlocals : W9 + (maxL + 11) + rm.locals ≤ R.locals)
    (hws : ∀ w ∈ ws, ∀ a' U, s.WarmedH U.vm → w.before a' U = true) (hcode : Cond.codeWith y bytes maxL ret hh ∈ ws) (hinit : ∀ a' U, s.WarmedH U.vm → (Cond.initialized y.cls).before a' U = true) :
    vx_Back l R p e below s sargs y len W9 (PreOf R mc ms Pc) (PostOf Qc mc ms free) (vx_Post XC mc ms free) := by
  intro m meth c A g ig mk a X hg hsize hdg hW hn hp
  have h1 : (headSpec ws rm).pre.before a A.U = true := atoms_intro fun w hw => hws w hw _ _ X.warmed
  have h2 : (Cond.codeWith y bytes maxL ret hh).before a A.U = true := hws _ hcode _ _ X.warmed
  have h3 : (Cond.initialized y.cls).before a A.U = true := hinit _ _ X.warmed
  have h4 : A.cells + (headSpec ws rm).room.cells ≤ R.cells := by rw [show (headSpec ws rm).room.cells = mc from hrc]; exact hp.1
  have h5 : A.slots + (headSpec ws rm).room.slots ≤ R.slots := by rw [show (headSpec ws rm).room.slots = ms from hrs]; exact hp.2.1
  have hPc : Pc a (A.U.calling g mk a) := hblind _ _ _ _ hp.2.2
  obtain ⟨U, Ls, c0, s0⟩ := A
  dsimp only [Pt.U, Pt.locs, Pt.cells, Pt.slots] at h1 h2 h3 h4 h5 X hn hPc ⊢
  obtain ⟨m9, methY, cY, hn9, hmY, hcY, -, hlY, -⟩ := Cond.codeWith_spec h2
  cases Option.some.inj (hn9.symm.trans hn)
  obtain ⟨kY, hkY, -⟩ := className_of_methodNamed hn
  have hinitY : kY.init = .initialized := Cond.initialized_spec (findClass_of_methodNamed hn) hkY h3
  have h : At U g.method c below := by rw [hg]; exact X.here
  have hlocals9 : W9 + (maxL + 11) + (headSpec ws rm).room.locals ≤ R.locals := hlocals
  have happ : (headSpec ws rm).appliesLoose y e.platform (U.calling g mk a) = true :=
    Spec.appliesLoose_calling (g := g) h hdg hn hkY hinitY
      (X.room_calling (g := g) (R' := (headSpec ws rm).room) hsize hmY hcY hframes (by rw [hlY]; omega) h4 h5) h1
  obtain ⟨mid, hmid⟩ := h.above
  have hfr : (U.setTop g).frames = (.java g :: mid) ++ below := by rw [State.frames_setTop' g h.top, hmid]; rfl
  obtain ⟨o, s₂, hsteps, -, hend, hq⟩ := Steps.callFree hM p X.admits X.cas X.clock (acts := []) hfr happ hPc trivial
  have hq' : vx_Q Qc XC mc ms free a (U.calling g mk a) o s₂ := hq
  rw [State.frames_setTop' g h.top] at hend
  obtain ⟨g₀, hg0⟩ := Option.isSome_iff_exists.mp h.top
  obtain ⟨r, hr⟩ := State.topJava?_eq_some.mp hg0
  have hr' : (({ U with heap := s₂.heap, slotsUsed := s₂.slotsUsed } : State).setVm s₂.vm).frames = .java g₀ :: r := hr
  rcases hq' with ⟨hqc, L, hfe, hL⟩ | ⟨q, rfl, E, ce, L, hx, hce, hcv, hcl, hW₂, hsm, hL⟩
  · obtain ⟨⟨v, rfl⟩, hW₂, e2, q2, q3, q4, q5, q6⟩ := id hfe
    have e3 : s₂ = ({ (U.calling g mk a).setFrames s₂.frames with heap := s₂.heap, slotsUsed := s₂.slotsUsed } : State).setVm s₂.vm := by
      have : s₂ = ({ s₂ with vm := (U.calling g mk a).vm } : State).setVm s₂.vm := rfl
      rw [e2] at this
      exact this
    obtain ⟨c₂, i₂, len₂, hc₂, hd₂, hf₂⟩ := hend
    have hW' : U.WarmedH s₂.vm := hW₂
    have hcc : c₂ = c := by
      have h1 : s₂.code? g.method = U.code? g.method := by
        rw [State.code?_eq, State.code?_eq, hW'.alike.method?]
      exact Option.some.inj (hc₂.symm.trans (h1.trans h.code))
    subst hcc
    have hlen : len₂ = len := by rw [hdg] at hd₂; cases hd₂; rfl
    subst hlen
    have hs₂ : s₂ = (({ U with heap := s₂.heap, slotsUsed := s₂.slotsUsed } : State).setVm s₂.vm).setTop { g with pc := g.pc + len₂, stack := v.toList ++ g.stack } := by
      refine e3.trans ?_
      rw [hf₂, State.calling_eq h.top, State.setFrames_setFrames, State.setTop_of_frames _ hr', hr]
      rfl
    have hsame : U.sameButNew ({ U with heap := s₂.heap, slotsUsed := s₂.slotsUsed } : State) L mc ms := by
      refine ⟨?_, q2, q3, q4, q5, q6⟩
      obtain ⟨t, ht, -⟩ := State.frames_cons hr
      show ({ U with heap := s₂.heap, slotsUsed := s₂.slotsUsed } : State) = { U.setFrames U.frames with heap := s₂.heap, slotsUsed := s₂.slotsUsed }
      rw [State.setFrames_self ht]
    subst hg
    refine Or.inl ⟨v, ⟨(({ U with heap := s₂.heap, slotsUsed := s₂.slotsUsed } : State).setVm s₂.vm), Ls ++ L, c0 + mc, s0 + ms⟩,
      ⟨X.admits, X.cas, X.clock, X.frames, X.room, X.hears, X.method, X.code, (X.here.setHeapUsed s₂.heap s₂.slotsUsed).setVm hW'.alike, X.tail, State.WarmedH.trans X.warmed hW', X.limits, X.bytes, X.same.trans (hsame.setVm s.vm)⟩,
      ⟨g, mk, s₂, L, rfl, rfl, hqc, rfl, hL, rfl, rfl⟩, ?_⟩
    show Steps p.tables e below _ ((({ U with heap := s₂.heap, slotsUsed := s₂.slotsUsed } : State).setVm s₂.vm).setTop { g with pc := g.pc + len₂, stack := v.toList ++ g.stack })
    rw [← hs₂]
    exact hsteps
  · obtain ⟨e2, q2, q3, q4, q5, q6⟩ := id hsm
    have e3 : s₂ = ({ (U.calling g mk a).setFrames s₂.frames with heap := s₂.heap, slotsUsed := s₂.slotsUsed } : State).setVm s₂.vm := by
      have : s₂ = ({ s₂ with vm := (U.calling g mk a).vm } : State).setVm s₂.vm := rfl
      rw [e2] at this
      exact this
    have hf₂ : s₂.frames = .throwing q :: .java g :: U.frames.tail := hend
    have hW' : U.WarmedH s₂.vm := hW₂
    have hs₂ : s₂ = ((({ U with heap := s₂.heap, slotsUsed := s₂.slotsUsed } : State).setVm s₂.vm).setTop g).pushFrame (.throwing q) := by
      refine e3.trans ?_
      rw [hf₂, State.calling_eq h.top, State.setFrames_setFrames, State.pushFrame, State.frames_setTop _ hr', State.setTop_of_frames _ hr', State.setFrames_setFrames, hr]
      rfl
    have hsame : U.sameButNew ({ U with heap := s₂.heap, slotsUsed := s₂.slotsUsed } : State) L mc ms := by
      refine ⟨?_, q2, q3, q4, q5, q6⟩
      obtain ⟨t, ht, -⟩ := State.frames_cons hr
      show ({ U with heap := s₂.heap, slotsUsed := s₂.slotsUsed } : State) = { U.setFrames U.frames with heap := s₂.heap, slotsUsed := s₂.slotsUsed }
      rw [State.setFrames_self ht]
    subst hg
    refine Or.inr ⟨q, ⟨(({ U with heap := s₂.heap, slotsUsed := s₂.slotsUsed } : State).setVm s₂.vm), Ls ++ L, c0 + mc, s0 + ms⟩,
      ⟨X.admits, X.cas, X.clock, X.frames, X.room, X.hears, X.method, X.code, (X.here.setHeapUsed s₂.heap s₂.slotsUsed).setVm hW'.alike, X.tail, State.WarmedH.trans X.warmed hW', X.limits, X.bytes, X.same.trans (hsame.setVm s.vm)⟩,
      ⟨g, mk, s₂, L, E, ce, rfl, rfl, hx, hce, hcv, hcl, rfl, hL, rfl, rfl⟩, ?_⟩
    show Steps p.tables e below _ (((({ U with heap := s₂.heap, slotsUsed := s₂.slotsUsed } : State).setVm s₂.vm).setTop g).pushFrame (.throwing q))
    rw [← hs₂]
    exact hsteps
end
variable {p : Program} {l : Launch} {e : Env} {R : Room} {s : State} {m : MethodId} {args : Array Value} {below : List Frame} {meth : Method} {c : Code} {T : State} {H : Heap} {locs : List Loc} {cells slots : Nat}
theorem vx_callVX (X : Stand p l e R s m args below meth c T locs cells slots) (hexec : p.tables.exec = Jvm.exec) {own C : String} {index : Nat} {y : MethodName} {bytes : ByteArray} {maxL : Nat} {ret : Option FieldType} {hh : List (Nat × Nat × Nat × Nat)}
    (hown : s.vm.findClass own = some m.cls) (hlink : (Cond.methodLink own index y).before args s = true) (hinst : (Cond.instanceMethod y).before args s = true) (hsel : (Cond.selects C y y).before args s = true)
    (hcode : (Cond.codeWith y bytes maxL ret hh).before args s = true) (hy : y.cls ≠ "java/lang/invoke/MethodHandle" ∧ y.cls ≠ "java/lang/invoke/VarHandle")
    {W9 : Nat} {Pre : Pt → Array Value → Prop} {Post : Pt → Array Value → Option Value → Pt → Prop} {PostX : Pt → Array Value → Addr → Pt → Prop} (hK : vx_Back l R p e below s args y 3 W9 Pre Post PostX)
    {b : Addr} {cellB : Cell} (hcell : T.heap[b]? = some cellB) (hobj : cellB.vm.isStatics = false) (hcls : s.vm.findClass C = some cellB.cls)
    {g : JFrame} (hg : g.method = m) (hsize : g.locals.size = c.maxLocals) {argsL rest : List Value} (hlen : ∀ sig, parseMethodDescriptor y.desc = some sig → argsL.length = sig.parameters.length)
    (hstack : g.stack = argsL.reverse ++ .ref b :: rest) (hW : 2 * g.monitorRoom + (rest.map fun v => v.category).sum ≤ W9) (hdg : decode c.code g.pc = .ok (.invokevirtual index, 3))
    (hpre : ∀ vm₁, s.WarmedH vm₁ → Pre ⟨T.setVm vm₁, locs, cells, slots⟩ (Value.ref b :: argsL).toArray) :
    (∃ (v : Option Value) (vm₁ : Vm) (B : Pt), s.WarmedH vm₁ ∧ Stand p l e R s m args below meth c B.U B.locs B.cells B.slots ∧ Post ⟨T.setVm vm₁, locs, cells, slots⟩ (Value.ref b :: argsL).toArray v B ∧
      ∀ target, Steps p.tables e below (B.U.setTop { g with pc := g.pc + 3, stack := v.toList ++ rest }) target → Steps p.tables e below (T.setTop g) target) ∨
    (∃ (q : Addr) (vm₁ : Vm) (B : Pt), s.WarmedH vm₁ ∧ Stand p l e R s m args below meth c B.U B.locs B.cells B.slots ∧ PostX ⟨T.setVm vm₁, locs, cells, slots⟩ (Value.ref b :: argsL).toArray q B ∧
      Steps p.tables e below (T.setTop g) ((B.U.setTop { g with stack := rest }).pushFrame (.throwing q))) := by
  obtain ⟨mk, methM, hnamed, hmethM, hstM, habM⟩ := Cond.instanceMethod_spec hinst
  obtain ⟨m8, methM', cM, hn8, hmethM', -, -, -, -, -, -, hsigM⟩ := Cond.codeWith_spec hcode
  cases Option.some.inj (hn8.symm.trans hnamed)
  cases hmethM.symm.trans hmethM'
  obtain ⟨c2, r2, m2, q1, q2, q3, q4, kP, hkP, hkPi⟩ := Cond.selects_spec hsel
  cases hcls.symm.trans q1
  cases (State.methodFound?_of_named hnamed hy).symm.trans q2
  cases hnamed.symm.trans q3
  have hselP : selectMethod e.platform s.vm cellB.cls mk = .method mk := by rw [Launch.admits_selectMethod X.admits]; exact q4
  obtain ⟨vm₁, X₁, hstep₁⟩ := X.invokevirtual hexec hown hlink hnamed hmethM hstM hkP hkPi hy (a := b) (cell := cellB) hcell
    (fun z h => by rw [h] at hobj; cases hobj) hselP hmethM habM hkP hkPi (g := g) hg (argsL := argsL) (rest := rest) (hlen _ hsigM) hstack hdg
  rcases hK m meth c ⟨T.setVm vm₁, locs, cells, slots⟩ { g with stack := rest } (.invokevirtual index) mk (Value.ref b :: argsL).toArray X₁ hg hsize hdg hW (X₁.named hnamed) (hpre vm₁ X₁.warmed) with ⟨v, B, X', hpost, hsteps⟩ | ⟨q, B, X', hpost, hsteps⟩
  · exact Or.inl ⟨v, vm₁, B, X₁.warmed, X', hpost, fun target h => hstep₁ _ fun acts => by rw [doInvoke_state]; exact hsteps.trans h⟩
  · exact Or.inr ⟨q, vm₁, B, X₁.warmed, X', hpost, hstep₁ _ fun acts => by rw [doInvoke_state]; exact hsteps⟩
theorem vx_callSX (X : Stand p l e R s m args below meth c T locs cells slots) (hexec : p.tables.exec = Jvm.exec) {own : String} {index : Nat} {y : MethodName} {bytes : ByteArray} {maxL : Nat} {ret : Option FieldType} {hh : List (Nat × Nat × Nat × Nat)}
    (hown : s.vm.findClass own = some m.cls) (hlink : (Cond.methodLink own index y).before args s = true) (hstat : (Cond.static y).before args s = true) (hinit : (Cond.initialized y.cls).before args s = true)
    (hcode : (Cond.codeWith y bytes maxL ret hh).before args s = true) (hy : y.cls ≠ "java/lang/invoke/MethodHandle" ∧ y.cls ≠ "java/lang/invoke/VarHandle")
    {W9 : Nat} {Pre : Pt → Array Value → Prop} {Post : Pt → Array Value → Option Value → Pt → Prop} {PostX : Pt → Array Value → Addr → Pt → Prop} (hK : vx_Back l R p e below s args y 3 W9 Pre Post PostX)
    {g : JFrame} (hg : g.method = m) (hsize : g.locals.size = c.maxLocals) {argsL rest : List Value} (hlen : ∀ sig, parseMethodDescriptor y.desc = some sig → argsL.length = sig.parameters.length)
    (hstack : g.stack = argsL.reverse ++ rest) (hW : 2 * g.monitorRoom + (rest.map fun v => v.category).sum ≤ W9) (hdg : decode c.code g.pc = .ok (.invokestatic index, 3))
    (hpre : ∀ vm₁, s.WarmedH vm₁ → Pre ⟨T.setVm vm₁, locs, cells, slots⟩ argsL.toArray) :
    (∃ (v : Option Value) (vm₁ : Vm) (B : Pt), s.WarmedH vm₁ ∧ Stand p l e R s m args below meth c B.U B.locs B.cells B.slots ∧ Post ⟨T.setVm vm₁, locs, cells, slots⟩ argsL.toArray v B ∧
      ∀ target, Steps p.tables e below (B.U.setTop { g with pc := g.pc + 3, stack := v.toList ++ rest }) target → Steps p.tables e below (T.setTop g) target) ∨
    (∃ (q : Addr) (vm₁ : Vm) (B : Pt), s.WarmedH vm₁ ∧ Stand p l e R s m args below meth c B.U B.locs B.cells B.slots ∧ PostX ⟨T.setVm vm₁, locs, cells, slots⟩ argsL.toArray q B ∧
      Steps p.tables e below (T.setTop g) ((B.U.setTop { g with stack := rest }).pushFrame (.throwing q))) := by
  obtain ⟨mk, methM, cM, hnamed, hmethM, -, -, -, -, -, -, hsigM⟩ := Cond.codeWith_spec hcode
  have hstatic : methM.isStatic = true := Cond.static_spec hnamed hmethM hstat
  obtain ⟨kP, hkP, -⟩ := className_of_methodNamed hnamed
  have hinitP : kP.init = .initialized := Cond.initialized_spec (findClass_of_methodNamed hnamed) hkP hinit
  obtain ⟨vm₁, X₁, hstep₁⟩ := X.invokestatic hexec hown hlink hnamed hmethM hstatic hkP hinitP hy (g := g) hg (argsL := argsL) (rest := rest) (hlen _ hsigM) hstack hdg
  rcases hK m meth c ⟨T.setVm vm₁, locs, cells, slots⟩ { g with stack := rest } (.invokestatic index) mk argsL.toArray X₁ hg hsize hdg hW (X₁.named hnamed) (hpre vm₁ X₁.warmed) with ⟨v, B, X', hpost, hsteps⟩ | ⟨q, B, X', hpost, hsteps⟩
  · exact Or.inl ⟨v, vm₁, B, X₁.warmed, X', hpost, fun target h => hstep₁ _ fun acts => by rw [doInvoke_state]; exact hsteps.trans h⟩
  · exact Or.inr ⟨q, vm₁, B, X₁.warmed, X', hpost, hstep₁ _ fun acts => by rw [doInvoke_state]; exact hsteps⟩
theorem vx_callVW (X : Stand p l e R s m args below meth c T locs cells slots) (hexec : p.tables.exec = Jvm.exec) {own C : String} {index : Nat} {y : MethodName} {bytes : ByteArray} {maxL : Nat} {ret : Option FieldType} {hh : List (Nat × Nat × Nat × Nat)}
    (hown : s.vm.findClass own = some m.cls) (hlink : (Cond.methodLink own index y).before args s = true) (hinst : (Cond.instanceMethod y).before args s = true) (hsel : (Cond.selects C y y).before args s = true)
    (hcode : (Cond.codeWith y bytes maxL ret hh).before args s = true) (hy : y.cls ≠ "java/lang/invoke/MethodHandle" ∧ y.cls ≠ "java/lang/invoke/VarHandle")
    {W9 : Nat} {Pre : Pt → Array Value → Prop} {Post : Pt → Array Value → Option Value → Pt → Prop} (hK : Back l R p e below s args y 3 W9 Pre Post)
    {b : Addr} {cellB : Cell} (hcell : T.heap[b]? = some cellB) (hobj : cellB.vm.isStatics = false) (hcls : s.vm.findClass C = some cellB.cls)
    {g : JFrame} (hg : g.method = m) (hsize : g.locals.size = c.maxLocals) {argsL rest : List Value} (hlen : ∀ sig, parseMethodDescriptor y.desc = some sig → argsL.length = sig.parameters.length)
    (hstack : g.stack = argsL.reverse ++ .ref b :: rest) (hW : 2 * g.monitorRoom + (rest.map fun v => v.category).sum ≤ W9) (hdg : decode c.code g.pc = .ok (.invokevirtual index, 3))
    (hpre : ∀ vm₁, s.WarmedH vm₁ → Pre ⟨T.setVm vm₁, locs, cells, slots⟩ (Value.ref b :: argsL).toArray) :
    ∃ (v : Option Value) (vm₁ : Vm) (B : Pt), s.WarmedH vm₁ ∧ Stand p l e R s m args below meth c B.U B.locs B.cells B.slots ∧ Post ⟨T.setVm vm₁, locs, cells, slots⟩ (Value.ref b :: argsL).toArray v B ∧
      ∀ target, Steps p.tables e below (B.U.setTop { g with pc := g.pc + 3, stack := v.toList ++ rest }) target → Steps p.tables e below (T.setTop g) target := by
  obtain ⟨mk, methM, hnamed, hmethM, hstM, habM⟩ := Cond.instanceMethod_spec hinst
  obtain ⟨m8, methM', cM, hn8, hmethM', -, -, -, -, -, -, hsigM⟩ := Cond.codeWith_spec hcode
  cases Option.some.inj (hn8.symm.trans hnamed)
  cases hmethM.symm.trans hmethM'
  obtain ⟨c2, r2, m2, q1, q2, q3, q4, kP, hkP, hkPi⟩ := Cond.selects_spec hsel
  cases hcls.symm.trans q1
  cases (State.methodFound?_of_named hnamed hy).symm.trans q2
  cases hnamed.symm.trans q3
  have hselP : selectMethod e.platform s.vm cellB.cls mk = .method mk := by rw [Launch.admits_selectMethod X.admits]; exact q4
  obtain ⟨vm₁, X₁, hstep₁⟩ := X.invokevirtual hexec hown hlink hnamed hmethM hstM hkP hkPi hy (a := b) (cell := cellB) hcell
    (fun z h => by rw [h] at hobj; cases hobj) hselP hmethM habM hkP hkPi (g := g) hg (argsL := argsL) (rest := rest) (hlen _ hsigM) hstack hdg
  obtain ⟨v, B, X', hpost, hsteps⟩ := hK m meth c ⟨T.setVm vm₁, locs, cells, slots⟩ { g with stack := rest } (.invokevirtual index) mk (Value.ref b :: argsL).toArray X₁ hg hsize hdg hW (X₁.named hnamed) (hpre vm₁ X₁.warmed)
  exact ⟨v, vm₁, B, X₁.warmed, X', hpost, fun target h => hstep₁ _ fun acts => by rw [doInvoke_state]; exact hsteps.trans h⟩
abbrev vx_CVW (R : Room) (s : State) (args : Array Value) (own C : String) (index : Nat) (y : MethodName) (bytes : ByteArray) (maxL : Nat) (ret : Option FieldType) (hh : List (Nat × Nat × Nat × Nat)) (ws : List Cond) (rm : Room) (mc ms n : Nat) : Prop :=
  (rm.cells = mc ∧ rm.slots = ms ∧ rm.frames + 1 ≤ R.frames ∧ 8 + (maxL + 11) + rm.locals ≤ R.locals ∧ (∀ w ∈ ws, ∀ (a' : Array Value) (U : State), s.WarmedH U.vm → w.before a' U = true) ∧ Cond.codeWith y bytes maxL ret hh ∈ ws) ∧
  (Cond.codeWith y bytes maxL ret hh).before args s = true ∧ (Cond.initialized y.cls).before args s = true ∧ (y.cls ≠ "java/lang/invoke/MethodHandle" ∧ y.cls ≠ "java/lang/invoke/VarHandle") ∧
  (∀ sig, parseMethodDescriptor y.desc = some sig → n = sig.parameters.length) ∧ (Cond.methodLink own index y).before args s = true ∧ (Cond.instanceMethod y).before args s = true ∧ (Cond.selects C y y).before args s = true
theorem vx_cwVW {own C : String} {index maxL mc ms : Nat} {y : MethodName} {bytes : ByteArray} {ret : Option FieldType} {hh : List (Nat × Nat × Nat × Nat)} {Ts ws ws' : List Cond} {rm : Room} (n : Nat) (ht : ∀ w ∈ Ts, w.before args s = true) (hT : GoodIn Ts (wsV own index C y ws)) (hw : ws = Cond.codeWith y bytes maxL ret hh :: ws') (hrc : rm.cells = mc) (hrs : rm.slots = ms)
    (hd : y.cls = C ∧ y.cls ≠ "java/lang/invoke/MethodHandle" ∧ y.cls ≠ "java/lang/invoke/VarHandle" ∧ (parseMethodDescriptor y.desc).map (fun d => d.parameters.length) = some n) (hR : rm.frames + 1 ≤ R.frames ∧ 8 + (maxL + 11) + rm.locals ≤ R.locals) :
    vx_CVW R s args own C index y bytes maxL ret hh ws rm mc ms n := by
  obtain ⟨hC, hd⟩ := hd
  subst hC
  have ok : ∀ w ∈ wsV own index y.cls y ws, w.before args s = true := fun w h => ht w (hT w h).1
  have hG : GoodIn Ts ws := fun w h => hT w (by unfold wsV; exact List.mem_append_right _ h)
  have hc : Cond.codeWith y bytes maxL ret hh ∈ ws := by rw [hw]; exact List.mem_cons_self
  refine ⟨⟨hrc, hrs, hR.1, hR.2, pay_in ht hG, hc⟩, ht _ (hG _ hc).1, ok _ (by simp [wsV]), ⟨hd.1, hd.2.1⟩, fun sig h => ?_, ok _ (by simp [wsV]), ok _ (by simp [wsV]), ok _ (by simp [wsV])⟩
  have h2 := hd.2.2
  rw [h] at h2
  exact (Option.some.inj h2).symm
theorem vx_runVW {y : MethodName} {bytes cc : ByteArray} {maxL nL mc ms n index : Nat} {ret : Option FieldType} {hh : List (Nat × Nat × Nat × Nat)} {ws : List Cond} {rm : Room} {Pc : Array Value → State → Prop} {Qc : Array Value → State → Outcome → State → Prop} {free : Addr → Prop} {Ts : List Cond} {own C : String} {b : Addr} {As rest : List Value} {g : JFrame}
    (S : CallFix p m c cc nL s args Ts own) (hM : Met l y ws rm Pc Qc mc ms free) (cw : vx_CVW R s args own C index y bytes maxL ret hh ws rm mc ms n) (hp : PreV s H C b Pc As)
    (hg : g.method = m) (hn : As.length = n) (hsize : g.locals.size = nL) (hstack : g.stack = As.reverse ++ .ref b :: rest) (hW : 2 * g.monitorRoom + (rest.map fun v => v.category).sum ≤ 8) (hdg : decode cc g.pc = .ok (.invokevirtual index, 3)) (hf : cells + mc ≤ R.cells ∧ slots + ms ≤ R.slots) :
    va_Run p l e R s m args below meth c H locs cells slots mc ms g rest (Qc (Value.ref b :: As).toArray) free := by
  obtain ⟨⟨hrc, hrs, hfr, hlo, hws, hcw⟩, hcode, hini, hy, hlen, hl, hin, hse⟩ := cw
  have hK : Back l R p e below s args y 3 8 (PreOf R mc ms Pc) (PostOf Qc mc ms free) := va_backW (hh := hh) (bytes := bytes) (maxL := maxL) (ret := ret) hM hp.1 hrc hrs hfr hlo hws hcw (fun a' U hW => word_at hW (Or.inl (by first | rfl | simp [Cond.onTables, Cond.keeps, Cond.steady])) hini)
  obtain ⟨hx, hb, hml, ho, -⟩ := S
  obtain ⟨-, ⟨cellB, hcB, hoB, hclB⟩, hPc⟩ := hp
  intro T hT X
  obtain ⟨v, vm₁, ⟨U', l2, c2, s2⟩, hW₁, X', ⟨g', mk, t, L, e1, e2, hq, h1, hL, h2, h3⟩, st⟩ := vx_callVW X hx (C := C) (hh := hh) (bytes := bytes) (maxL := maxL) (ret := ret) ho hl hin hse hcode hy hK (by rw [hT]; exact hcB) hoB hclB hg (hsize.trans hml.symm) (argsL := As) (rest := rest) (fun sig h => hn.trans (hlen sig h)) hstack hW (by rw [hb]; exact hdg)
    (fun vm₁ hW₁ => ⟨hf.1, hf.2, hPc (T.setVm vm₁) hT hW₁⟩)
  dsimp only [Pt.U, Pt.locs, Pt.cells, Pt.slots] at X' e1 e2 h1 h2 h3 st
  subst h1; subst h2; subst h3
  exact ⟨v, (T.setVm vm₁).calling g' mk (Value.ref b :: As).toArray, t, U', L, hT, X', hL, e1, e2, hq, st⟩
section
variable {y : MethodName} {bytes cc : ByteArray} {maxL nL mc ms n index : Nat} {ret : Option FieldType} {ws : List Cond} {rm : Room} {Pc : Array Value → State → Prop} {Qc : Array Value → State → Outcome → State → Prop} {XC : String → State → State → Prop} {free : Addr → Prop} {Ts : List Cond} {own C : String} {b : Addr} {As rest : List Value} {g : JFrame}
theorem vx_runVX {hh : List (Nat × Nat × Nat × Nat)} (S : CallFix p m c cc nL s args Ts own) (hM : vx_Met l y ws rm Pc Qc XC mc ms free) (cw : vx_CVW R s args own C index y bytes maxL ret hh ws rm mc ms n) (hp : PreV s H C b Pc As)
    (hg : g.method = m) (hn : As.length = n) (hsize : g.locals.size = nL) (hstack : g.stack = As.reverse ++ .ref b :: rest) (hW : 2 * g.monitorRoom + (rest.map fun v => v.category).sum ≤ 8) (hdg : decode cc g.pc = .ok (.invokevirtual index, 3)) (hf : cells + mc ≤ R.cells ∧ slots + ms ≤ R.slots) :
    vx_Run p l e R s m args below meth c H locs cells slots mc ms g rest (Qc (Value.ref b :: As).toArray) XC free := by
  obtain ⟨⟨hrc, hrs, hfr, hlo, hws, hcw⟩, hcode, hini, hy, hlen, hl, hin, hse⟩ := cw
  have hK : vx_Back l R p e below s args y 3 8 (PreOf R mc ms Pc) (PostOf Qc mc ms free) (vx_Post XC mc ms free) := vx_backW (hh := hh) (bytes := bytes) (maxL := maxL) (ret := ret) hM hp.1 hrc hrs hfr hlo hws hcw (fun a' U hW => word_at hW (Or.inl (by first | rfl | simp [Cond.onTables, Cond.keeps, Cond.steady])) hini)
  obtain ⟨hx, hb, hml, ho, -⟩ := S
  obtain ⟨-, ⟨cellB, hcB, hoB, hclB⟩, hPc⟩ := hp
  intro T hT X
  rcases vx_callVX X hx (C := C) (hh := hh) (bytes := bytes) (maxL := maxL) (ret := ret) ho hl hin hse hcode hy hK (by rw [hT]; exact hcB) hoB hclB hg (hsize.trans hml.symm) (argsL := As) (rest := rest) (fun sig h => hn.trans (hlen sig h)) hstack hW (by rw [hb]; exact hdg)
    (fun vm₁ hW₁ => ⟨hf.1, hf.2, hPc (T.setVm vm₁) hT hW₁⟩) with ⟨v, vm₁, ⟨U', l2, c2, s2⟩, hW₁, X', ⟨g', mk, t, L, e1, e2, hq, h1, hL, h2, h3⟩, st⟩ | ⟨q, vm₁, ⟨U', l2, c2, s2⟩, hW₁, X', ⟨g', mk, t, L, E, ce, e1, e2, hq, hce, hcv, hcl, h1, hL, h2, h3⟩, st⟩
  · dsimp only [Pt.U, Pt.locs, Pt.cells, Pt.slots] at X' e1 e2 h1 h2 h3 st
    subst h1; subst h2; subst h3
    exact Or.inl ⟨v, (T.setVm vm₁).calling g' mk (Value.ref b :: As).toArray, t, U', L, hT, X', hL, e1, e2, hq, st⟩
  · dsimp only [Pt.U, Pt.locs, Pt.cells, Pt.slots] at X' e1 e2 h1 h2 h3 st hcl
    subst h1; subst h2; subst h3
    exact Or.inr ⟨q, (T.setVm vm₁).calling g' mk (Value.ref b :: As).toArray, t, U', L, E, ce, hT, X', hL, e1, e2, hq, hce, hcv, vx_cls hW₁ hcl, st⟩
theorem vx_runSX {hh : List (Nat × Nat × Nat × Nat)} (S : CallFix p m c cc nL s args Ts own) (hM : vx_Met l y ws rm Pc Qc XC mc ms free) (cw : vx_CSW R s args own index y bytes maxL ret hh ws rm mc ms n) (hp : PreS s H Pc As)
    (hg : g.method = m) (hn : As.length = n) (hsize : g.locals.size = nL) (hstack : g.stack = As.reverse ++ rest) (hW : 2 * g.monitorRoom + (rest.map fun v => v.category).sum ≤ 8) (hdg : decode cc g.pc = .ok (.invokestatic index, 3)) (hf : cells + mc ≤ R.cells ∧ slots + ms ≤ R.slots) :
    vx_Run p l e R s m args below meth c H locs cells slots mc ms g rest (Qc As.toArray) XC free := by
  obtain ⟨⟨hrc, hrs, hfr, hlo, hws, hcw⟩, hcode, hini, hy, hlen, hl, hstt⟩ := cw
  have hK : vx_Back l R p e below s args y 3 8 (PreOf R mc ms Pc) (PostOf Qc mc ms free) (vx_Post XC mc ms free) := vx_backW (hh := hh) (bytes := bytes) (maxL := maxL) (ret := ret) hM hp.1 hrc hrs hfr hlo hws hcw (fun a' U hW => word_at hW (Or.inl (by first | rfl | simp [Cond.onTables, Cond.keeps, Cond.steady])) hini)
  obtain ⟨hx, hb, hml, ho, -⟩ := S
  intro T hT X
  rcases vx_callSX X hx (hh := hh) (bytes := bytes) (maxL := maxL) (ret := ret) ho hl hstt hini hcode hy hK hg (hsize.trans hml.symm) (argsL := As) (rest := rest) (fun sig h => hn.trans (hlen sig h)) hstack hW (by rw [hb]; exact hdg)
    (fun vm₁ hW₁ => ⟨hf.1, hf.2, hp.2 (T.setVm vm₁) hT hW₁⟩) with ⟨v, vm₁, ⟨U', l2, c2, s2⟩, hW₁, X', ⟨g', mk, t, L, e1, e2, hq, h1, hL, h2, h3⟩, st⟩ | ⟨q, vm₁, ⟨U', l2, c2, s2⟩, hW₁, X', ⟨g', mk, t, L, E, ce, e1, e2, hq, hce, hcv, hcl, h1, hL, h2, h3⟩, st⟩
  · dsimp only [Pt.U, Pt.locs, Pt.cells, Pt.slots] at X' e1 e2 h1 h2 h3 st
    subst h1; subst h2; subst h3
    exact Or.inl ⟨v, (T.setVm vm₁).calling g' mk As.toArray, t, U', L, hT, X', hL, e1, e2, hq, st⟩
  · dsimp only [Pt.U, Pt.locs, Pt.cells, Pt.slots] at X' e1 e2 h1 h2 h3 st hcl
    subst h1; subst h2; subst h3
    exact Or.inr ⟨q, (T.setVm vm₁).calling g' mk As.toArray, t, U', L, E, ce, hT, X', hL, e1, e2, hq, hce, hcv, vx_cls hW₁ hcl, st⟩
end
end VXH
theorem vx_ofWH {l : Launch} {y : MethodName} {ws ws' : List Cond} {rm : Room} {Pc : Array Value → State → Prop} {Qc : Array Value → State → Outcome → State → Prop} {XC : String → State → State → Prop} {mc ms : Nat} {free : Addr → Prop} {cc : ByteArray} {maxL : Nat} {ret : Option FieldType} {hh : List (Nat × Nat × Nat × Nat)}
    (hy : plainName y.cls = true) (hw : ws = Cond.codeWith y cc maxL ret hh :: ws')
    (body : ∀ p e s m args below meth c s₁, BodyLoose p l y (headSpec ws rm) cc maxL ret e s m args below meth c s₁ → c.maxLocals = maxL → Pc args s →
      W p l e (headSpec ws rm).room s m args below meth c s.heap [] 0 0 (vx_MQ below Qc XC args s mc ms free) (entryFrame m args maxL)) : vx_Met l y ws rm Pc Qc XC mc ms free := by
  refine MetFree.of_bodyS (code := cc) (maxLocals := maxL) (ret := ret) hy ?_ ?_
  · intro args s m h hn
    obtain ⟨m9, meth, c, hn9, h1, h2, h3, h4, -, h5, h6, -⟩ := Cond.codeWith_spec (atoms_spec (ws := ws) h _ (by rw [hw]; exact List.mem_cons_self))
    cases hn.symm.trans hn9
    exact ⟨meth, c, h1, h2, h3, h4, h5, h6⟩
  · intro p e s m args below meth c s₁ B hml hP _
    have hh0 : s₁.heap = s.heap := by rw [B.state]; rfl
    obtain ⟨t, a1, o, b1, b2, b3⟩ := body p e s m args below meth c s₁ B hml hP s₁ hh0 (Stand.of_body B)
    exact ⟨t, o, a1, b1, b2, b3⟩
/-! ===== END ===== -/
end
section
/-! What is known of the statics: the powers of five; the two formats (0 double, 1 float); what a throwable reads -/
abbrev tyS (cB cI cJ : ClassId) : List (ClassId × FieldType) := [(cB, .byte), (cI, .int), (cJ, .long)]
def fbz (k : Nat) : Nat := if k = 0 then 52 else 23
def lez (k : Nat) : Int := if k = 0 then -1074 else -149
def mkz (k : Nat) : Nat := if k = 0 then 9223372036854775807 else 2147483647
def ifz (k : Nat) : Nat := if k = 0 then 9218868437227405312 else 2139095040
abbrev fOD : String := "LExactDigits$Format;"
abbrev xIA : String := "java/lang/IllegalArgumentException"
abbrev xAE : String := "java/lang/ArithmeticException"
/-- words of the tables that may warm -/
def eW (U : State) : Prop := va_Nw (.castable xIA xIA) U ∧ va_Nw (.castable xAE xAE) U ∧
  va_Nw (.declares ⟨"java/lang/RuntimeException", "<init>", "()V"⟩) U ∧ va_Nw (.declares ⟨"java/lang/Exception", "<init>", "()V"⟩) U ∧ va_Nw (.declares ⟨"java/lang/Throwable", "<init>", "()V"⟩) U ∧
  va_Nw (.methodLinkNest "ExactDigits" 15 m_Na_init "ExactDigits") U ∧ va_Nw (.methodLinkNest "ExactDigitsModel" 9 m_Ro_init "ExactDigitsModel") U ∧ va_Nw (.methodLinkNest "ExactDigitsModel" 27 m_De_init "ExactDigitsModel") U
theorem eW_w {u U : State} (hW : u.WarmedH U.vm) (h : eW u) : eW U := by
  obtain ⟨h1, h2, h3, h4, h5, h6, h7, h8⟩ := h
  exact ⟨va_Nw.warmC hW h1, va_Nw.warmC hW h2, va_Nw.warmD hW h3, va_Nw.warmD hW h4, va_Nw.warmD hW h5, va_Nw.warmM hW h6, va_Nw.warmM hW h7, va_Nw.warmM hW h8⟩
def eX (t5 : Nat) (ad : Nat → Nat) (A : Nat → Prop) (U : State) : Prop :=
  va_Z "ExactDigits$Natural" "POWERS_OF_FIVE" "[I" (.ref t5) A U U.heap ∧ va_T .int t5 13 (fun j => .int (iI ((5 ^ j : Nat) : Int))) A U U.heap ∧
  va_Z "ExactDigits$Format" "DOUBLE" fOD (.ref (ad 0)) A U U.heap ∧ va_Z "ExactDigits$Format" "FLOAT" fOD (.ref (ad 1)) A U U.heap ∧
  (∀ k, k < 2 → va_O "ExactDigits$Format" (ad k) A U U.heap) ∧
  va_Ef 2 "ExactDigits$Format" "fractionBits" "I" (fun k => .int (iI ((fbz k : Nat) : Int))) ad A U U.heap ∧
  va_Ef 2 "ExactDigits$Format" "leastExponent" "I" (fun k => .int (iI (lez k))) ad A U U.heap ∧
  va_Ef 2 "ExactDigits$Format" "sizeMask" "J" (fun k => .long (jI ((mkz k : Nat) : Int))) ad A U U.heap ∧
  va_Ef 2 "ExactDigits$Format" "infinite" "J" (fun k => .long (jI ((ifz k : Nat) : Int))) ad A U U.heap ∧
  vx_Zq Bundle.tN "UNASSIGNED_STACK" Bundle.steD A U U.heap ∧ vx_Zq Bundle.tN "SUPPRESSED_SENTINEL" Bundle.listD A U U.heap ∧ eW U
theorem eX_X (t5 : Nat) (ad : Nat → Nat) : c_X (eX t5 ad) := by
  intro A B u U hW hq hAB h
  have hvm := hW.alike
  obtain ⟨h1, h2, h3, h4, h5, h6, h7, h8, h9, h10, h11, h12⟩ := h
  exact ⟨((h1.moved hvm).kept hq).narrow hAB, ((h2.moved hvm).kept hq).narrow hAB, ((h3.moved hvm).kept hq).narrow hAB, ((h4.moved hvm).kept hq).narrow hAB, fun k hk => (((h5 k hk).moved hvm).kept hq).narrow hAB,
    ((h6.moved hvm).kept hq).narrow hAB, ((h7.moved hvm).kept hq).narrow hAB, ((h8.moved hvm).kept hq).narrow hAB, ((h9.moved hvm).kept hq).narrow hAB, ((h10.moved hvm).kept hq).narrow hAB, ((h11.moved hvm).kept hq).narrow hAB, eW_w hW h12⟩
/-- rooms -/
abbrev rm_ (k w : Nat) : Room := { frames := k, cells := 0, slots := 0, locals := w }
/-- words of calls -/
theorem gV {X : Cond} {own C : String} {i : Nat} {y : MethodName} {cc : ByteArray} {n : Nat} {r : Option FieldType} (h1 : Cond.methodLink own i y ∈ gw) (h2 : Cond.instanceMethod y ∈ gw) (h3 : Cond.selects C y y ∈ gw) (h4 : Cond.initialized C ∈ gw) (h5 : Cond.code y cc n r ∈ gw) : GoodIn (X :: gw) (wsV own i C y (Cond.code y cc n r :: gw)) := gw_good (by
  intro w hw
  unfold wsV at hw
  rcases List.mem_append.mp hw with hw | hw
  · simp only [List.mem_cons, List.not_mem_nil, or_false] at hw
    rcases hw with rfl | rfl | rfl | rfl
    · exact h1
    · exact h2
    · exact h3
    · exact h4
  · rcases List.mem_cons.mp hw with rfl | hw
    · exact h5
    · exact hw)
theorem gS {X : Cond} {own : String} {i : Nat} {y : MethodName} {cc : ByteArray} {n : Nat} {r : Option FieldType} (h1 : Cond.methodLink own i y ∈ gw) (h2 : Cond.static y ∈ gw) (h4 : Cond.initialized y.cls ∈ gw) (h5 : Cond.code y cc n r ∈ gw) : GoodIn (X :: gw) (va_wsS own i y (Cond.code y cc n r :: gw)) := gw_good (by
  intro w hw
  unfold va_wsS at hw
  rcases List.mem_append.mp hw with hw | hw
  · simp only [List.mem_cons, List.not_mem_nil, or_false] at hw
    rcases hw with rfl | rfl | rfl
    · exact h1
    · exact h2
    · exact h4
  · rcases List.mem_cons.mp hw with rfl | hw
    · exact h5
    · exact hw)
end
section
theorem upd_lo {g : Nat → Int32} {i : Nat} {x : Int32} {P : Nat → Int32} (h : ∀ j, j < i → g j = P j) (hx : x = P i) : ∀ j, j < i + 1 → upd g i x j = P j := by
  intro j hj
  by_cases e : j = i
  · subst e; rw [pk_us, hx]
  · rw [pk_un e]; exact h j (by omega)
theorem upd_hi {g : Nat → Int32} {i n : Nat} {x : Int32} {P : Nat → Int32} (h : ∀ j, i ≤ j → j < n → g j = P j) : ∀ j, i + 1 ≤ j → j < n → upd g i x j = P j := by
  intro j h1 h2
  rw [pk_un (by omega)]; exact h j (by omega) h2
theorem iI_min {a b : Int} (ha : iR a) (hb : iR b) : (if iI b < iI a then iI b else iI a) = iI (min a b) := by
  by_cases h : b < a
  · rw [if_pos ((iI_lt hb ha).mpr h)]; congr 1; omega
  · rw [if_neg (fun z => h ((iI_lt hb ha).mp z))]; congr 1; omega
theorem iI_max {a b : Int} (ha : iR a) (hb : iR b) : (if iI a < iI b then iI b else iI a) = iI (max a b) := by
  by_cases h : a < b
  · rw [if_pos ((iI_lt ha hb).mpr h)]; congr 1; omega
  · rw [if_neg (fun z => h ((iI_lt ha hb).mp z))]; congr 1; omega
section EdRows2
variable {p : Program} {l : Launch} {e : Env} {R : Room} {s : State} {m : MethodId} {args : Array Value} {below : List Frame} {meth : Method} {c : Code} {H : Heap} {locs : List Loc} {cells slots : Nat} {Q : State → Prop} {cc : ByteArray} {pc : Nat} {ls : Array Slot} {rest : List Value}
theorem ed_min (hx : p.tables.exec = Jvm.exec) (hb : c.code = cc) (hml : c.maxLocals = ls.size) {own : String} {index : Nat} (hown : s.vm.findClass own = some m.cls) (hlink : (Cond.methodLink own index Lib.Math.min.name).before args s = true) (hstat : (Cond.static Lib.Math.min.name).before args s = true) (hini : (Cond.initialized "java/lang/Math").before args s = true) (hcode : (Cond.code Lib.Math.min.name Lib.Math.min.code 2 (some .int)).before args s = true) (hframes : 1 ≤ R.frames) (hlocals : (rest.map fun v => v.category).sum + 13 ≤ R.locals) (hc : cells ≤ R.cells) (hs : slots ≤ R.slots) {a b : Int} (ha : iR a) (hbr : iR b) (hdg : decode cc pc = .ok (.invokestatic index, 3)) (kk : W p l e R s m args below meth c H locs cells slots Q (F0 m (pc + 3) ls (.int (iI (min a b)) :: rest))) : W p l e R s m args below meth c H locs cells slots Q (F0 m pc ls (.int (iI b) :: .int (iI a) :: rest)) := va_mmin hx hb hml hown hlink hstat hini hcode hframes hlocals hc hs hdg (by rw [iI_min ha hbr]; exact kk)
theorem ed_max (hx : p.tables.exec = Jvm.exec) (hb : c.code = cc) (hml : c.maxLocals = ls.size) {own : String} {index : Nat} (hown : s.vm.findClass own = some m.cls) (hlink : (Cond.methodLink own index Lib.Math.max.name).before args s = true) (hstat : (Cond.static Lib.Math.max.name).before args s = true) (hini : (Cond.initialized "java/lang/Math").before args s = true) (hcode : (Cond.code Lib.Math.max.name Lib.Math.max.code 2 (some .int)).before args s = true) (hframes : 1 ≤ R.frames) (hlocals : (rest.map fun v => v.category).sum + 13 ≤ R.locals) (hc : cells ≤ R.cells) (hs : slots ≤ R.slots) {a b : Int} (ha : iR a) (hbr : iR b) (hdg : decode cc pc = .ok (.invokestatic index, 3)) (kk : W p l e R s m args below meth c H locs cells slots Q (F0 m (pc + 3) ls (.int (iI (max a b)) :: rest))) : W p l e R s m args below meth c H locs cells slots Q (F0 m pc ls (.int (iI b) :: .int (iI a) :: rest)) := va_mmax hx hb hml hown hlink hstat hini hcode hframes hlocals hc hs hdg (by rw [iI_max ha hbr]; exact kk)
theorem ed_lifx_eq (hx : p.tables.exec = Jvm.exec) (hb : c.code = cc) {x y : Int64} {off : Int} {tgt : Nat} (hd1 : decode cc pc = .ok (.lcmp, 1)) (hd2 : decode cc (pc + 1) = .ok (.ifCond .eq off, 3)) (ht : ((pc + 1 : Nat) : Int) + off = (tgt : Int)) (kt : x = y → W p l e R s m args below meth c H locs cells slots Q (F0 m tgt ls rest)) (kf : ¬ x = y → W p l e R s m args below meth c H locs cells slots Q (F0 m (pc + 1 + 3) ls rest)) : W p l e R s m args below meth c H locs cells slots Q (F0 m pc ls (.long y :: .long x :: rest)) := W.lcmp hx hb hd1 (lv_if_eq hx hb hd2 ht (fun z => kt ((lg_cmp_eq _ _).mp z)) (fun z => kf (fun z2 => z ((lg_cmp_eq _ _).mpr z2))))
theorem ed_lifx_ne (hx : p.tables.exec = Jvm.exec) (hb : c.code = cc) {x y : Int64} {off : Int} {tgt : Nat} (hd1 : decode cc pc = .ok (.lcmp, 1)) (hd2 : decode cc (pc + 1) = .ok (.ifCond .ne off, 3)) (ht : ((pc + 1 : Nat) : Int) + off = (tgt : Int)) (kt : ¬ x = y → W p l e R s m args below meth c H locs cells slots Q (F0 m tgt ls rest)) (kf : x = y → W p l e R s m args below meth c H locs cells slots Q (F0 m (pc + 1 + 3) ls rest)) : W p l e R s m args below meth c H locs cells slots Q (F0 m pc ls (.long y :: .long x :: rest)) := W.lcmp hx hb hd1 (lv_if_ne hx hb hd2 ht (fun z => kt (fun z2 => z ((lg_cmp_eq _ _).mpr z2))) (fun z => kf ((lg_cmp_eq _ _).mp z)))
theorem ed_lifx_lt (hx : p.tables.exec = Jvm.exec) (hb : c.code = cc) {x y : Int64} {off : Int} {tgt : Nat} (hd1 : decode cc pc = .ok (.lcmp, 1)) (hd2 : decode cc (pc + 1) = .ok (.ifCond .lt off, 3)) (ht : ((pc + 1 : Nat) : Int) + off = (tgt : Int)) (kt : x < y → W p l e R s m args below meth c H locs cells slots Q (F0 m tgt ls rest)) (kf : ¬ x < y → W p l e R s m args below meth c H locs cells slots Q (F0 m (pc + 1 + 3) ls rest)) : W p l e R s m args below meth c H locs cells slots Q (F0 m pc ls (.long y :: .long x :: rest)) := W.lcmp hx hb hd1 (lv_if_lt hx hb hd2 ht (fun z => kt ((lg_cmp_lt _ _).mp z)) (fun z => kf (fun z2 => z ((lg_cmp_lt _ _).mpr z2))))
theorem ed_lifx_ge (hx : p.tables.exec = Jvm.exec) (hb : c.code = cc) {x y : Int64} {off : Int} {tgt : Nat} (hd1 : decode cc pc = .ok (.lcmp, 1)) (hd2 : decode cc (pc + 1) = .ok (.ifCond .ge off, 3)) (ht : ((pc + 1 : Nat) : Int) + off = (tgt : Int)) (kt : y ≤ x → W p l e R s m args below meth c H locs cells slots Q (F0 m tgt ls rest)) (kf : ¬ y ≤ x → W p l e R s m args below meth c H locs cells slots Q (F0 m (pc + 1 + 3) ls rest)) : W p l e R s m args below meth c H locs cells slots Q (F0 m pc ls (.long y :: .long x :: rest)) := W.lcmp hx hb hd1 (lv_if_ge hx hb hd2 ht (fun z => kt ((lg_cmp_ge _ _).mp z)) (fun z => kf (fun z2 => z ((lg_cmp_ge _ _).mpr z2))))
theorem ed_lifx_gt (hx : p.tables.exec = Jvm.exec) (hb : c.code = cc) {x y : Int64} {off : Int} {tgt : Nat} (hd1 : decode cc pc = .ok (.lcmp, 1)) (hd2 : decode cc (pc + 1) = .ok (.ifCond .gt off, 3)) (ht : ((pc + 1 : Nat) : Int) + off = (tgt : Int)) (kt : y < x → W p l e R s m args below meth c H locs cells slots Q (F0 m tgt ls rest)) (kf : ¬ y < x → W p l e R s m args below meth c H locs cells slots Q (F0 m (pc + 1 + 3) ls rest)) : W p l e R s m args below meth c H locs cells slots Q (F0 m pc ls (.long y :: .long x :: rest)) := W.lcmp hx hb hd1 (lv_if_gt hx hb hd2 ht (fun z => kt ((lg_cmp_gt _ _).mp z)) (fun z => kf (fun z2 => z ((lg_cmp_gt _ _).mpr z2))))
theorem ed_lifx_le (hx : p.tables.exec = Jvm.exec) (hb : c.code = cc) {x y : Int64} {off : Int} {tgt : Nat} (hd1 : decode cc pc = .ok (.lcmp, 1)) (hd2 : decode cc (pc + 1) = .ok (.ifCond .le off, 3)) (ht : ((pc + 1 : Nat) : Int) + off = (tgt : Int)) (kt : x ≤ y → W p l e R s m args below meth c H locs cells slots Q (F0 m tgt ls rest)) (kf : ¬ x ≤ y → W p l e R s m args below meth c H locs cells slots Q (F0 m (pc + 1 + 3) ls rest)) : W p l e R s m args below meth c H locs cells slots Q (F0 m pc ls (.long y :: .long x :: rest)) := W.lcmp hx hb hd1 (lv_if_le hx hb hd2 ht (fun z => kt ((lg_cmp_le _ _).mp z)) (fun z => kf (fun z2 => z ((lg_cmp_le _ _).mpr z2))))
end EdRows2
end
section
/-! ===== lN n to 2^64: shifts, and, or, masks, one bit ===== -/
theorem wb_tb (n : Nat) : (lN n).toBitVec = BitVec.ofNat 64 n := rfl
theorem wb_inj {a b : Int64} (h : a.toBitVec = b.toBitVec) : a = b := Int64.toBitVec_inj.mp h
theorem wb_tn {n : Nat} (h : n < 2 ^ 64) : (lN n).toBitVec.toNat = n := by rw [wb_tb, BitVec.toNat_ofNat, Nat.mod_eq_of_lt h]
theorem wb_of (x : Int64) : ∃ n, n < 2 ^ 64 ∧ x = lN n := ⟨x.toBitVec.toNat, x.toBitVec.isLt, wb_inj (by rw [wb_tb]; simp)⟩
theorem wb_of32 (x : Int32) : ∃ n, n < 2 ^ 32 ∧ x = nI n := ⟨x.toBitVec.toNat, x.toBitVec.isLt, Int32.toBitVec_inj.mp (by show _ = BitVec.ofNat 32 _; simp)⟩
theorem wb_c : ∀ k, k < 64 → ((nI k).toInt64 &&& 63) = lN k := by decide +kernel
theorem wb_cu : ∀ k, k < 64 → ((nI k).toInt64.toUInt64 &&& Int64.toUInt64 63) = UInt64.ofNat k := by decide +kernel
theorem wb_sm : ∀ k, k < 64 → (BitVec.ofNat 64 k).smod 64 = BitVec.ofNat 64 k := by decide +kernel
theorem wb_pw {a b : Nat} (h : a ≤ b) : 2 ^ b = 2 ^ a * 2 ^ (b - a) := by rw [← Nat.pow_add]; congr 1; omega
theorem wb_lt2 {a b : Nat} (h : a < b) : 2 ^ a < 2 ^ b := Nat.pow_lt_pow_right (by decide) h
theorem wb_mod (n : Nat) : lN n = lN (n % 2 ^ 64) := wb_inj (by rw [wb_tb, wb_tb]; apply BitVec.eq_of_toNat_eq; rw [BitVec.toNat_ofNat, BitVec.toNat_ofNat, Nat.mod_mod])
theorem wb_shr {n k : Nat} (hn : n < 2 ^ 64) (hk : k < 64) : ((lN n).toUInt64 >>> ((nI k).toInt64.toUInt64 &&& Int64.toUInt64 63)).toInt64 = lN (n / 2 ^ k) := by
  rw [wb_cu k hk]
  apply wb_inj
  apply BitVec.eq_of_toNat_eq
  show ((lN n).toUInt64 >>> UInt64.ofNat k).toNat = (BitVec.ofNat 64 _).toNat
  have h1 : (UInt64.ofNat k).toNat = k := by
    show (BitVec.ofNat 64 k).toNat = k
    rw [BitVec.toNat_ofNat, Nat.mod_eq_of_lt (by omega)]
  have h2 : (lN n).toUInt64.toNat = n := wb_tn hn
  rw [UInt64.toNat_shiftRight, h1, h2, Nat.mod_eq_of_lt hk, Nat.shiftRight_eq_div_pow, BitVec.toNat_ofNat, Nat.mod_eq_of_lt (Nat.lt_of_le_of_lt (Nat.div_le_self _ _) hn)]
theorem wb_shl (n : Nat) {k : Nat} (hk : k < 64) : lN n <<< ((nI k).toInt64 &&& 63) = lN (n * 2 ^ k) := by
  rw [wb_c k hk]
  apply wb_inj
  rw [Int64.toBitVec_shiftLeft, wb_tb, wb_tb, wb_tb, wb_sm k hk]
  apply BitVec.eq_of_toNat_eq
  rw [BitVec.shiftLeft_eq', BitVec.toNat_shiftLeft, BitVec.toNat_ofNat, BitVec.toNat_ofNat, BitVec.toNat_ofNat, Nat.mod_eq_of_lt (show k < 2 ^ 64 by omega), Nat.shiftLeft_eq, Nat.mul_mod, Nat.mod_mod, ← Nat.mul_mod]
theorem wb_and {a b : Nat} (ha : a < 2 ^ 64) (hb : b < 2 ^ 64) : lN a &&& lN b = lN (a &&& b) := by
  apply wb_inj
  rw [Int64.toBitVec_and, wb_tb, wb_tb, wb_tb]
  apply BitVec.eq_of_toNat_eq
  rw [BitVec.toNat_and, BitVec.toNat_ofNat, BitVec.toNat_ofNat, BitVec.toNat_ofNat, Nat.mod_eq_of_lt ha, Nat.mod_eq_of_lt hb, Nat.mod_eq_of_lt (Nat.and_lt_two_pow _ hb)]
theorem wb_or {a b : Nat} (ha : a < 2 ^ 64) (hb : b < 2 ^ 64) : lN a ||| lN b = lN (a ||| b) := by
  apply wb_inj
  rw [Int64.toBitVec_or, wb_tb, wb_tb, wb_tb]
  apply BitVec.eq_of_toNat_eq
  rw [BitVec.toNat_or, BitVec.toNat_ofNat, BitVec.toNat_ofNat, BitVec.toNat_ofNat, Nat.mod_eq_of_lt ha, Nat.mod_eq_of_lt hb, Nat.mod_eq_of_lt (Nat.or_lt_two_pow ha hb)]
theorem wb_mask {n k : Nat} (hn : n < 2 ^ 64) (hk : k < 64) : lN n &&& lN (2 ^ k - 1) = lN (n % 2 ^ k) := by
  rw [wb_and hn (by have := wb_lt2 hk; omega), Nat.and_two_pow_sub_one_eq_mod]
theorem wb_a1 {n : Nat} (hn : n < 2 ^ 64) : lN n &&& 1 = lN (n % 2) := wb_mask (k := 1) hn (by decide)
theorem wb_bit {n k : Nat} (hn : n < 2 ^ 64) (hk : k < 64) : ((lN n).toUInt64 >>> ((nI k).toInt64.toUInt64 &&& Int64.toUInt64 63)).toInt64 &&& 1 = lN (n / 2 ^ k % 2) := by
  rw [wb_shr hn hk, wb_a1 (Nat.lt_of_le_of_lt (Nat.div_le_self _ _) hn)]
theorem wb_xor {q k : Nat} (hk : k < 63) (h : 2 ^ k ≤ q) (h2 : q < 2 ^ (k + 1)) : lN q ^^^ lN (2 ^ k) = lN (q - 2 ^ k) := by
  obtain ⟨r, rfl⟩ : ∃ r, q = 2 ^ k + r := ⟨q - 2 ^ k, by omega⟩
  have hr : r < 2 ^ k := by rw [Nat.pow_succ] at h2; omega
  have hx : (2 ^ k + r) ^^^ 2 ^ k = r := by
    apply Nat.eq_of_testBit_eq
    intro i
    rw [Nat.testBit_xor, Nat.testBit_two_pow]
    rcases Nat.lt_trichotomy i k with h | h | h
    · rw [Nat.testBit_two_pow_add_gt h]
      simp [show ¬ k = i by omega]
    · subst h
      rw [Nat.testBit_two_pow_add_eq]
      simp
    · have a1 : 2 ^ (k + 1) ≤ 2 ^ i := Nat.pow_le_pow_right (by decide) h
      rw [Nat.testBit_lt_two_pow (show 2 ^ k + r < 2 ^ i by omega), Nat.testBit_lt_two_pow (show r < 2 ^ i by omega)]
      simp [show ¬ k = i by omega]
  have b1 := wb_lt2 (show k + 1 < 64 by omega)
  have b2 := wb_lt2 (show k < 64 by omega)
  apply wb_inj
  rw [Int64.toBitVec_xor, wb_tb, wb_tb, wb_tb]
  apply BitVec.eq_of_toNat_eq
  rw [BitVec.toNat_xor, BitVec.toNat_ofNat, BitVec.toNat_ofNat, BitVec.toNat_ofNat, Nat.mod_eq_of_lt (by omega : 2 ^ k + r < 2 ^ 64), Nat.mod_eq_of_lt b2, hx, Nat.add_sub_cancel_left, Nat.mod_eq_of_lt (by omega)]
theorem lN_0 {n : Nat} (h : n < 2 ^ 64) : lN n = jI 0 ↔ n = 0 := by
  constructor
  · intro e
    have := congrArg (fun z : Int64 => z.toBitVec.toNat) e
    simp only [wb_tn h] at this
    exact this
  · rintro rfl; rfl
end
section
theorem d_Fo_nearestTo_0 : decode b_Fo_nearestTo 0 = .ok (.lload_n 1, 1) := by decide +kernel
theorem d_Fo_nearestTo_1 : decode b_Fo_nearestTo 1 = .ok (.invokestatic 49, 3) := by decide +kernel
theorem d_Fo_nearestTo_4 : decode b_Fo_nearestTo 4 = .ok (.iconst 1, 1) := by decide +kernel
theorem d_Fo_nearestTo_5 : decode b_Fo_nearestTo 5 = .ok (.isub, 1) := by decide +kernel
theorem d_Fo_nearestTo_6 : decode b_Fo_nearestTo 6 = .ok (.aload_n 0, 1) := by decide +kernel
theorem d_Fo_nearestTo_7 : decode b_Fo_nearestTo 7 = .ok (.getfield 29, 3) := by decide +kernel
theorem d_Fo_nearestTo_10 : decode b_Fo_nearestTo 10 = .ok (.isub, 1) := by decide +kernel
theorem d_Fo_nearestTo_11 : decode b_Fo_nearestTo 11 = .ok (.istore 5, 2) := by decide +kernel
theorem d_Fo_nearestTo_13 : decode b_Fo_nearestTo 13 = .ok (.iload 5, 2) := by decide +kernel
theorem d_Fo_nearestTo_15 : decode b_Fo_nearestTo 15 = .ok (.aload_n 0, 1) := by decide +kernel
theorem d_Fo_nearestTo_16 : decode b_Fo_nearestTo 16 = .ok (.getfield 33, 3) := by decide +kernel
theorem d_Fo_nearestTo_19 : decode b_Fo_nearestTo 19 = .ok (.iload 4, 2) := by decide +kernel
theorem d_Fo_nearestTo_21 : decode b_Fo_nearestTo 21 = .ok (.isub, 1) := by decide +kernel
theorem d_Fo_nearestTo_22 : decode b_Fo_nearestTo 22 = .ok (.invokestatic 43, 3) := by decide +kernel
theorem d_Fo_nearestTo_25 : decode b_Fo_nearestTo 25 = .ok (.istore 6, 2) := by decide +kernel
theorem d_Fo_nearestTo_27 : decode b_Fo_nearestTo 27 = .ok (.iload 4, 2) := by decide +kernel
theorem d_Fo_nearestTo_29 : decode b_Fo_nearestTo 29 = .ok (.iload 6, 2) := by decide +kernel
theorem d_Fo_nearestTo_31 : decode b_Fo_nearestTo 31 = .ok (.iadd, 1) := by decide +kernel
theorem d_Fo_nearestTo_32 : decode b_Fo_nearestTo 32 = .ok (.aload_n 0, 1) := by decide +kernel
theorem d_Fo_nearestTo_33 : decode b_Fo_nearestTo 33 = .ok (.getfield 33, 3) := by decide +kernel
theorem d_Fo_nearestTo_36 : decode b_Fo_nearestTo 36 = .ok (.isub, 1) := by decide +kernel
theorem d_Fo_nearestTo_37 : decode b_Fo_nearestTo 37 = .ok (.istore 7, 2) := by decide +kernel
theorem d_Fo_nearestTo_39 : decode b_Fo_nearestTo 39 = .ok (.iload 6, 2) := by decide +kernel
theorem d_Fo_nearestTo_41 : decode b_Fo_nearestTo 41 = .ok (.bipush 63, 2) := by decide +kernel
theorem d_Fo_nearestTo_43 : decode b_Fo_nearestTo 43 = .ok (.if_icmp .le 5, 3) := by decide +kernel
theorem d_Fo_nearestTo_46 : decode b_Fo_nearestTo 46 = .ok (.lconst 0, 1) := by decide +kernel
theorem d_Fo_nearestTo_47 : decode b_Fo_nearestTo 47 = .ok (.lreturn, 1) := by decide +kernel
theorem d_Fo_nearestTo_48 : decode b_Fo_nearestTo 48 = .ok (.iload 7, 2) := by decide +kernel
theorem d_Fo_nearestTo_50 : decode b_Fo_nearestTo 50 = .ok (.i2l, 1) := by decide +kernel
theorem d_Fo_nearestTo_51 : decode b_Fo_nearestTo 51 = .ok (.aload_n 0, 1) := by decide +kernel
theorem d_Fo_nearestTo_52 : decode b_Fo_nearestTo 52 = .ok (.getfield 40, 3) := by decide +kernel
theorem d_Fo_nearestTo_55 : decode b_Fo_nearestTo 55 = .ok (.aload_n 0, 1) := by decide +kernel
theorem d_Fo_nearestTo_56 : decode b_Fo_nearestTo 56 = .ok (.getfield 29, 3) := by decide +kernel
theorem d_Fo_nearestTo_59 : decode b_Fo_nearestTo 59 = .ok (.lushr, 1) := by decide +kernel
theorem d_Fo_nearestTo_60 : decode b_Fo_nearestTo 60 = .ok (.ldc2_w 53, 3) := by decide +kernel
theorem d_Fo_nearestTo_63 : decode b_Fo_nearestTo 63 = .ok (.lsub, 1) := by decide +kernel
theorem d_Fo_nearestTo_64 : decode b_Fo_nearestTo 64 = .ok (.lcmp, 1) := by decide +kernel
theorem d_Fo_nearestTo_65 : decode b_Fo_nearestTo 65 = .ok (.ifCond .le 8, 3) := by decide +kernel
theorem d_Fo_nearestTo_68 : decode b_Fo_nearestTo 68 = .ok (.aload_n 0, 1) := by decide +kernel
theorem d_Fo_nearestTo_69 : decode b_Fo_nearestTo 69 = .ok (.getfield 40, 3) := by decide +kernel
theorem d_Fo_nearestTo_72 : decode b_Fo_nearestTo 72 = .ok (.lreturn, 1) := by decide +kernel
theorem d_Fo_nearestTo_73 : decode b_Fo_nearestTo 73 = .ok (.lload_n 1, 1) := by decide +kernel
theorem d_Fo_nearestTo_74 : decode b_Fo_nearestTo 74 = .ok (.iload 6, 2) := by decide +kernel
theorem d_Fo_nearestTo_76 : decode b_Fo_nearestTo 76 = .ok (.lushr, 1) := by decide +kernel
theorem d_Fo_nearestTo_77 : decode b_Fo_nearestTo 77 = .ok (.lstore 8, 2) := by decide +kernel
theorem d_Fo_nearestTo_79 : decode b_Fo_nearestTo 79 = .ok (.lload_n 1, 1) := by decide +kernel
theorem d_Fo_nearestTo_80 : decode b_Fo_nearestTo 80 = .ok (.lload 8, 2) := by decide +kernel
theorem d_Fo_nearestTo_82 : decode b_Fo_nearestTo 82 = .ok (.iload 6, 2) := by decide +kernel
theorem d_Fo_nearestTo_84 : decode b_Fo_nearestTo 84 = .ok (.lshl, 1) := by decide +kernel
theorem d_Fo_nearestTo_85 : decode b_Fo_nearestTo 85 = .ok (.lsub, 1) := by decide +kernel
theorem d_Fo_nearestTo_86 : decode b_Fo_nearestTo 86 = .ok (.lstore 10, 2) := by decide +kernel
theorem d_Fo_nearestTo_88 : decode b_Fo_nearestTo 88 = .ok (.lconst 1, 1) := by decide +kernel
theorem d_Fo_nearestTo_89 : decode b_Fo_nearestTo 89 = .ok (.iload 6, 2) := by decide +kernel
theorem d_Fo_nearestTo_91 : decode b_Fo_nearestTo 91 = .ok (.iconst 1, 1) := by decide +kernel
theorem d_Fo_nearestTo_92 : decode b_Fo_nearestTo 92 = .ok (.isub, 1) := by decide +kernel
theorem d_Fo_nearestTo_93 : decode b_Fo_nearestTo 93 = .ok (.lshl, 1) := by decide +kernel
theorem d_Fo_nearestTo_94 : decode b_Fo_nearestTo 94 = .ok (.lstore 12, 2) := by decide +kernel
theorem d_Fo_nearestTo_96 : decode b_Fo_nearestTo 96 = .ok (.lload 10, 2) := by decide +kernel
theorem d_Fo_nearestTo_98 : decode b_Fo_nearestTo 98 = .ok (.lload 12, 2) := by decide +kernel
theorem d_Fo_nearestTo_100 : decode b_Fo_nearestTo 100 = .ok (.lcmp, 1) := by decide +kernel
theorem d_Fo_nearestTo_101 : decode b_Fo_nearestTo 101 = .ok (.ifCond .gt 24, 3) := by decide +kernel
theorem d_Fo_nearestTo_104 : decode b_Fo_nearestTo 104 = .ok (.lload 10, 2) := by decide +kernel
theorem d_Fo_nearestTo_106 : decode b_Fo_nearestTo 106 = .ok (.lload 12, 2) := by decide +kernel
theorem d_Fo_nearestTo_108 : decode b_Fo_nearestTo 108 = .ok (.lcmp, 1) := by decide +kernel
theorem d_Fo_nearestTo_109 : decode b_Fo_nearestTo 109 = .ok (.ifCond .ne 20, 3) := by decide +kernel
theorem d_Fo_nearestTo_112 : decode b_Fo_nearestTo 112 = .ok (.iload_n 3, 1) := by decide +kernel
theorem d_Fo_nearestTo_113 : decode b_Fo_nearestTo 113 = .ok (.ifCond .ne 12, 3) := by decide +kernel
theorem d_Fo_nearestTo_116 : decode b_Fo_nearestTo 116 = .ok (.lload 8, 2) := by decide +kernel
theorem d_Fo_nearestTo_118 : decode b_Fo_nearestTo 118 = .ok (.lconst 1, 1) := by decide +kernel
theorem d_Fo_nearestTo_119 : decode b_Fo_nearestTo 119 = .ok (.land, 1) := by decide +kernel
theorem d_Fo_nearestTo_120 : decode b_Fo_nearestTo 120 = .ok (.lconst 0, 1) := by decide +kernel
theorem d_Fo_nearestTo_121 : decode b_Fo_nearestTo 121 = .ok (.lcmp, 1) := by decide +kernel
theorem d_Fo_nearestTo_122 : decode b_Fo_nearestTo 122 = .ok (.ifCond .eq 7, 3) := by decide +kernel
theorem d_Fo_nearestTo_125 : decode b_Fo_nearestTo 125 = .ok (.iconst 1, 1) := by decide +kernel
theorem d_Fo_nearestTo_126 : decode b_Fo_nearestTo 126 = .ok (.goto 4, 3) := by decide +kernel
theorem d_Fo_nearestTo_129 : decode b_Fo_nearestTo 129 = .ok (.iconst 0, 1) := by decide +kernel
theorem d_Fo_nearestTo_130 : decode b_Fo_nearestTo 130 = .ok (.istore 14, 2) := by decide +kernel
theorem d_Fo_nearestTo_132 : decode b_Fo_nearestTo 132 = .ok (.iload 7, 2) := by decide +kernel
theorem d_Fo_nearestTo_134 : decode b_Fo_nearestTo 134 = .ok (.i2l, 1) := by decide +kernel
theorem d_Fo_nearestTo_135 : decode b_Fo_nearestTo 135 = .ok (.aload_n 0, 1) := by decide +kernel
theorem d_Fo_nearestTo_136 : decode b_Fo_nearestTo 136 = .ok (.getfield 29, 3) := by decide +kernel
theorem d_Fo_nearestTo_139 : decode b_Fo_nearestTo 139 = .ok (.lshl, 1) := by decide +kernel
theorem d_Fo_nearestTo_140 : decode b_Fo_nearestTo 140 = .ok (.lload 8, 2) := by decide +kernel
theorem d_Fo_nearestTo_142 : decode b_Fo_nearestTo 142 = .ok (.ladd, 1) := by decide +kernel
theorem d_Fo_nearestTo_143 : decode b_Fo_nearestTo 143 = .ok (.iload 14, 2) := by decide +kernel
theorem d_Fo_nearestTo_145 : decode b_Fo_nearestTo 145 = .ok (.ifCond .eq 7, 3) := by decide +kernel
theorem d_Fo_nearestTo_148 : decode b_Fo_nearestTo 148 = .ok (.iconst 1, 1) := by decide +kernel
theorem d_Fo_nearestTo_149 : decode b_Fo_nearestTo 149 = .ok (.goto 4, 3) := by decide +kernel
theorem d_Fo_nearestTo_152 : decode b_Fo_nearestTo 152 = .ok (.iconst 0, 1) := by decide +kernel
theorem d_Fo_nearestTo_153 : decode b_Fo_nearestTo 153 = .ok (.i2l, 1) := by decide +kernel
theorem d_Fo_nearestTo_154 : decode b_Fo_nearestTo 154 = .ok (.ladd, 1) := by decide +kernel
theorem d_Fo_nearestTo_155 : decode b_Fo_nearestTo 155 = .ok (.lreturn, 1) := by decide +kernel
theorem d_Fo_bitsOf_0 : decode b_Fo_bitsOf 0 = .ok (.iconst 0, 1) := by decide +kernel
theorem d_Fo_bitsOf_1 : decode b_Fo_bitsOf 1 = .ok (.istore_n 2, 1) := by decide +kernel
theorem d_Fo_bitsOf_2 : decode b_Fo_bitsOf 2 = .ok (.iload_n 2, 1) := by decide +kernel
theorem d_Fo_bitsOf_3 : decode b_Fo_bitsOf 3 = .ok (.bipush 64, 2) := by decide +kernel
theorem d_Fo_bitsOf_5 : decode b_Fo_bitsOf 5 = .ok (.if_icmp .ge 17, 3) := by decide +kernel
theorem d_Fo_bitsOf_8 : decode b_Fo_bitsOf 8 = .ok (.lload_n 0, 1) := by decide +kernel
theorem d_Fo_bitsOf_9 : decode b_Fo_bitsOf 9 = .ok (.iload_n 2, 1) := by decide +kernel
theorem d_Fo_bitsOf_10 : decode b_Fo_bitsOf 10 = .ok (.lushr, 1) := by decide +kernel
theorem d_Fo_bitsOf_11 : decode b_Fo_bitsOf 11 = .ok (.lconst 0, 1) := by decide +kernel
theorem d_Fo_bitsOf_12 : decode b_Fo_bitsOf 12 = .ok (.lcmp, 1) := by decide +kernel
theorem d_Fo_bitsOf_13 : decode b_Fo_bitsOf 13 = .ok (.ifCond .eq 9, 3) := by decide +kernel
theorem d_Fo_bitsOf_16 : decode b_Fo_bitsOf 16 = .ok (.iinc 2 1, 3) := by decide +kernel
theorem d_Fo_bitsOf_19 : decode b_Fo_bitsOf 19 = .ok (.goto (-17), 3) := by decide +kernel
theorem d_Fo_bitsOf_22 : decode b_Fo_bitsOf 22 = .ok (.iload_n 2, 1) := by decide +kernel
theorem d_Fo_bitsOf_23 : decode b_Fo_bitsOf 23 = .ok (.ireturn, 1) := by decide +kernel
theorem d_Fo_withoutSign_0 : decode b_Fo_withoutSign 0 = .ok (.lload_n 1, 1) := by decide +kernel
theorem d_Fo_withoutSign_1 : decode b_Fo_withoutSign 1 = .ok (.aload_n 0, 1) := by decide +kernel
theorem d_Fo_withoutSign_2 : decode b_Fo_withoutSign 2 = .ok (.getfield 36, 3) := by decide +kernel
theorem d_Fo_withoutSign_5 : decode b_Fo_withoutSign 5 = .ok (.land, 1) := by decide +kernel
theorem d_Fo_withoutSign_6 : decode b_Fo_withoutSign 6 = .ok (.lreturn, 1) := by decide +kernel
theorem d_Fo_significand_0 : decode b_Fo_significand 0 = .ok (.lconst 1, 1) := by decide +kernel
theorem d_Fo_significand_1 : decode b_Fo_significand 1 = .ok (.aload_n 0, 1) := by decide +kernel
theorem d_Fo_significand_2 : decode b_Fo_significand 2 = .ok (.getfield 29, 3) := by decide +kernel
theorem d_Fo_significand_5 : decode b_Fo_significand 5 = .ok (.lshl, 1) := by decide +kernel
theorem d_Fo_significand_6 : decode b_Fo_significand 6 = .ok (.lstore_n 3, 1) := by decide +kernel
theorem d_Fo_significand_7 : decode b_Fo_significand 7 = .ok (.lload_n 1, 1) := by decide +kernel
theorem d_Fo_significand_8 : decode b_Fo_significand 8 = .ok (.lload_n 3, 1) := by decide +kernel
theorem d_Fo_significand_9 : decode b_Fo_significand 9 = .ok (.lconst 1, 1) := by decide +kernel
theorem d_Fo_significand_10 : decode b_Fo_significand 10 = .ok (.lsub, 1) := by decide +kernel
theorem d_Fo_significand_11 : decode b_Fo_significand 11 = .ok (.land, 1) := by decide +kernel
theorem d_Fo_significand_12 : decode b_Fo_significand 12 = .ok (.lstore 5, 2) := by decide +kernel
theorem d_Fo_significand_14 : decode b_Fo_significand 14 = .ok (.lload_n 1, 1) := by decide +kernel
theorem d_Fo_significand_15 : decode b_Fo_significand 15 = .ok (.lload_n 3, 1) := by decide +kernel
theorem d_Fo_significand_16 : decode b_Fo_significand 16 = .ok (.lcmp, 1) := by decide +kernel
theorem d_Fo_significand_17 : decode b_Fo_significand 17 = .ok (.ifCond .ge 8, 3) := by decide +kernel
theorem d_Fo_significand_20 : decode b_Fo_significand 20 = .ok (.lload 5, 2) := by decide +kernel
theorem d_Fo_significand_22 : decode b_Fo_significand 22 = .ok (.goto 7, 3) := by decide +kernel
theorem d_Fo_significand_25 : decode b_Fo_significand 25 = .ok (.lload 5, 2) := by decide +kernel
theorem d_Fo_significand_27 : decode b_Fo_significand 27 = .ok (.lload_n 3, 1) := by decide +kernel
theorem d_Fo_significand_28 : decode b_Fo_significand 28 = .ok (.lor, 1) := by decide +kernel
theorem d_Fo_significand_29 : decode b_Fo_significand 29 = .ok (.lreturn, 1) := by decide +kernel
theorem d_Fo_exponent_0 : decode b_Fo_exponent 0 = .ok (.lload_n 1, 1) := by decide +kernel
theorem d_Fo_exponent_1 : decode b_Fo_exponent 1 = .ok (.aload_n 0, 1) := by decide +kernel
theorem d_Fo_exponent_2 : decode b_Fo_exponent 2 = .ok (.getfield 29, 3) := by decide +kernel
theorem d_Fo_exponent_5 : decode b_Fo_exponent 5 = .ok (.lushr, 1) := by decide +kernel
theorem d_Fo_exponent_6 : decode b_Fo_exponent 6 = .ok (.l2i, 1) := by decide +kernel
theorem d_Fo_exponent_7 : decode b_Fo_exponent 7 = .ok (.istore_n 3, 1) := by decide +kernel
theorem d_Fo_exponent_8 : decode b_Fo_exponent 8 = .ok (.aload_n 0, 1) := by decide +kernel
theorem d_Fo_exponent_9 : decode b_Fo_exponent 9 = .ok (.getfield 33, 3) := by decide +kernel
theorem d_Fo_exponent_12 : decode b_Fo_exponent 12 = .ok (.iload_n 3, 1) := by decide +kernel
theorem d_Fo_exponent_13 : decode b_Fo_exponent 13 = .ok (.iconst 1, 1) := by decide +kernel
theorem d_Fo_exponent_14 : decode b_Fo_exponent 14 = .ok (.isub, 1) := by decide +kernel
theorem d_Fo_exponent_15 : decode b_Fo_exponent 15 = .ok (.iconst 0, 1) := by decide +kernel
theorem d_Fo_exponent_16 : decode b_Fo_exponent 16 = .ok (.invokestatic 43, 3) := by decide +kernel
theorem d_Fo_exponent_19 : decode b_Fo_exponent 19 = .ok (.iadd, 1) := by decide +kernel
theorem d_Fo_exponent_20 : decode b_Fo_exponent 20 = .ok (.ireturn, 1) := by decide +kernel
end
section
theorem d_Na_init_0 : decode b_Na_init 0 = .ok (.aload_n 0, 1) := by decide +kernel
theorem d_Na_init_1 : decode b_Na_init 1 = .ok (.invokespecial 1, 3) := by decide +kernel
theorem d_Na_init_4 : decode b_Na_init 4 = .ok (.aload_n 0, 1) := by decide +kernel
theorem d_Na_init_5 : decode b_Na_init 5 = .ok (.sipush 306, 3) := by decide +kernel
theorem d_Na_init_8 : decode b_Na_init 8 = .ok (.newarray .int, 2) := by decide +kernel
theorem d_Na_init_10 : decode b_Na_init 10 = .ok (.putfield 9, 3) := by decide +kernel
theorem d_Na_init_13 : decode b_Na_init 13 = .ok (.aload_n 0, 1) := by decide +kernel
theorem d_Na_init_14 : decode b_Na_init 14 = .ok (.iconst 0, 1) := by decide +kernel
theorem d_Na_init_15 : decode b_Na_init 15 = .ok (.putfield 13, 3) := by decide +kernel
theorem d_Na_init_18 : decode b_Na_init 18 = .ok (.return_, 1) := by decide +kernel
theorem d_Na_setUnsigned_0 : decode b_Na_setUnsigned 0 = .ok (.lload_n 1, 1) := by decide +kernel
theorem d_Na_setUnsigned_1 : decode b_Na_setUnsigned 1 = .ok (.lstore_n 3, 1) := by decide +kernel
theorem d_Na_setUnsigned_2 : decode b_Na_setUnsigned 2 = .ok (.aload_n 0, 1) := by decide +kernel
theorem d_Na_setUnsigned_3 : decode b_Na_setUnsigned 3 = .ok (.iconst 0, 1) := by decide +kernel
theorem d_Na_setUnsigned_4 : decode b_Na_setUnsigned 4 = .ok (.putfield 13, 3) := by decide +kernel
theorem d_Na_setUnsigned_7 : decode b_Na_setUnsigned 7 = .ok (.lload_n 3, 1) := by decide +kernel
theorem d_Na_setUnsigned_8 : decode b_Na_setUnsigned 8 = .ok (.lconst 0, 1) := by decide +kernel
theorem d_Na_setUnsigned_9 : decode b_Na_setUnsigned 9 = .ok (.lcmp, 1) := by decide +kernel
theorem d_Na_setUnsigned_10 : decode b_Na_setUnsigned 10 = .ok (.ifCond .eq 58, 3) := by decide +kernel
theorem d_Na_setUnsigned_13 : decode b_Na_setUnsigned 13 = .ok (.aload_n 0, 1) := by decide +kernel
theorem d_Na_setUnsigned_14 : decode b_Na_setUnsigned 14 = .ok (.getfield 13, 3) := by decide +kernel
theorem d_Na_setUnsigned_17 : decode b_Na_setUnsigned 17 = .ok (.aload_n 0, 1) := by decide +kernel
theorem d_Na_setUnsigned_18 : decode b_Na_setUnsigned 18 = .ok (.getfield 9, 3) := by decide +kernel
theorem d_Na_setUnsigned_21 : decode b_Na_setUnsigned 21 = .ok (.arraylength, 1) := by decide +kernel
theorem d_Na_setUnsigned_22 : decode b_Na_setUnsigned 22 = .ok (.if_icmp .ge 46, 3) := by decide +kernel
theorem d_Na_setUnsigned_25 : decode b_Na_setUnsigned 25 = .ok (.lload_n 3, 1) := by decide +kernel
theorem d_Na_setUnsigned_26 : decode b_Na_setUnsigned 26 = .ok (.iconst 1, 1) := by decide +kernel
theorem d_Na_setUnsigned_27 : decode b_Na_setUnsigned 27 = .ok (.lushr, 1) := by decide +kernel
theorem d_Na_setUnsigned_28 : decode b_Na_setUnsigned 28 = .ok (.ldc2_w 17, 3) := by decide +kernel
theorem d_Na_setUnsigned_31 : decode b_Na_setUnsigned 31 = .ok (.ldiv, 1) := by decide +kernel
theorem d_Na_setUnsigned_32 : decode b_Na_setUnsigned 32 = .ok (.lstore 5, 2) := by decide +kernel
theorem d_Na_setUnsigned_34 : decode b_Na_setUnsigned 34 = .ok (.aload_n 0, 1) := by decide +kernel
theorem d_Na_setUnsigned_35 : decode b_Na_setUnsigned 35 = .ok (.getfield 9, 3) := by decide +kernel
theorem d_Na_setUnsigned_38 : decode b_Na_setUnsigned 38 = .ok (.aload_n 0, 1) := by decide +kernel
theorem d_Na_setUnsigned_39 : decode b_Na_setUnsigned 39 = .ok (.getfield 13, 3) := by decide +kernel
theorem d_Na_setUnsigned_42 : decode b_Na_setUnsigned 42 = .ok (.lload_n 3, 1) := by decide +kernel
theorem d_Na_setUnsigned_43 : decode b_Na_setUnsigned 43 = .ok (.lload 5, 2) := by decide +kernel
theorem d_Na_setUnsigned_45 : decode b_Na_setUnsigned 45 = .ok (.ldc2_w 19, 3) := by decide +kernel
theorem d_Na_setUnsigned_48 : decode b_Na_setUnsigned 48 = .ok (.lmul, 1) := by decide +kernel
theorem d_Na_setUnsigned_49 : decode b_Na_setUnsigned 49 = .ok (.lsub, 1) := by decide +kernel
theorem d_Na_setUnsigned_50 : decode b_Na_setUnsigned 50 = .ok (.l2i, 1) := by decide +kernel
theorem d_Na_setUnsigned_51 : decode b_Na_setUnsigned 51 = .ok (.iastore, 1) := by decide +kernel
theorem d_Na_setUnsigned_52 : decode b_Na_setUnsigned 52 = .ok (.lload 5, 2) := by decide +kernel
theorem d_Na_setUnsigned_54 : decode b_Na_setUnsigned 54 = .ok (.lstore_n 3, 1) := by decide +kernel
theorem d_Na_setUnsigned_55 : decode b_Na_setUnsigned 55 = .ok (.aload_n 0, 1) := by decide +kernel
theorem d_Na_setUnsigned_56 : decode b_Na_setUnsigned 56 = .ok (.dup, 1) := by decide +kernel
theorem d_Na_setUnsigned_57 : decode b_Na_setUnsigned 57 = .ok (.getfield 13, 3) := by decide +kernel
theorem d_Na_setUnsigned_60 : decode b_Na_setUnsigned 60 = .ok (.iconst 1, 1) := by decide +kernel
theorem d_Na_setUnsigned_61 : decode b_Na_setUnsigned 61 = .ok (.iadd, 1) := by decide +kernel
theorem d_Na_setUnsigned_62 : decode b_Na_setUnsigned 62 = .ok (.putfield 13, 3) := by decide +kernel
theorem d_Na_setUnsigned_65 : decode b_Na_setUnsigned 65 = .ok (.goto (-58), 3) := by decide +kernel
theorem d_Na_setUnsigned_68 : decode b_Na_setUnsigned 68 = .ok (.return_, 1) := by decide +kernel
theorem d_Na_length_0 : decode b_Na_length 0 = .ok (.aload_n 0, 1) := by decide +kernel
theorem d_Na_length_1 : decode b_Na_length 1 = .ok (.getfield 13, 3) := by decide +kernel
theorem d_Na_length_4 : decode b_Na_length 4 = .ok (.ifCond .ne 5, 3) := by decide +kernel
theorem d_Na_length_7 : decode b_Na_length 7 = .ok (.iconst 0, 1) := by decide +kernel
theorem d_Na_length_8 : decode b_Na_length 8 = .ok (.ireturn, 1) := by decide +kernel
theorem d_Na_length_9 : decode b_Na_length 9 = .ok (.aload_n 0, 1) := by decide +kernel
theorem d_Na_length_10 : decode b_Na_length 10 = .ok (.getfield 13, 3) := by decide +kernel
theorem d_Na_length_13 : decode b_Na_length 13 = .ok (.iconst 1, 1) := by decide +kernel
theorem d_Na_length_14 : decode b_Na_length 14 = .ok (.isub, 1) := by decide +kernel
theorem d_Na_length_15 : decode b_Na_length 15 = .ok (.bipush 9, 2) := by decide +kernel
theorem d_Na_length_17 : decode b_Na_length 17 = .ok (.imul, 1) := by decide +kernel
theorem d_Na_length_18 : decode b_Na_length 18 = .ok (.istore_n 1, 1) := by decide +kernel
theorem d_Na_length_19 : decode b_Na_length 19 = .ok (.aload_n 0, 1) := by decide +kernel
theorem d_Na_length_20 : decode b_Na_length 20 = .ok (.getfield 9, 3) := by decide +kernel
theorem d_Na_length_23 : decode b_Na_length 23 = .ok (.aload_n 0, 1) := by decide +kernel
theorem d_Na_length_24 : decode b_Na_length 24 = .ok (.getfield 13, 3) := by decide +kernel
theorem d_Na_length_27 : decode b_Na_length 27 = .ok (.iconst 1, 1) := by decide +kernel
theorem d_Na_length_28 : decode b_Na_length 28 = .ok (.isub, 1) := by decide +kernel
theorem d_Na_length_29 : decode b_Na_length 29 = .ok (.iaload, 1) := by decide +kernel
theorem d_Na_length_30 : decode b_Na_length 30 = .ok (.istore_n 2, 1) := by decide +kernel
theorem d_Na_length_31 : decode b_Na_length 31 = .ok (.iload_n 2, 1) := by decide +kernel
theorem d_Na_length_32 : decode b_Na_length 32 = .ok (.ifCond .le 14, 3) := by decide +kernel
theorem d_Na_length_35 : decode b_Na_length 35 = .ok (.iinc 1 1, 3) := by decide +kernel
theorem d_Na_length_38 : decode b_Na_length 38 = .ok (.iload_n 2, 1) := by decide +kernel
theorem d_Na_length_39 : decode b_Na_length 39 = .ok (.bipush 10, 2) := by decide +kernel
theorem d_Na_length_41 : decode b_Na_length 41 = .ok (.idiv, 1) := by decide +kernel
theorem d_Na_length_42 : decode b_Na_length 42 = .ok (.istore_n 2, 1) := by decide +kernel
theorem d_Na_length_43 : decode b_Na_length 43 = .ok (.goto (-12), 3) := by decide +kernel
theorem d_Na_length_46 : decode b_Na_length 46 = .ok (.iload_n 1, 1) := by decide +kernel
theorem d_Na_length_47 : decode b_Na_length 47 = .ok (.ireturn, 1) := by decide +kernel
theorem d_Na_copyDigits_0 : decode b_Na_copyDigits 0 = .ok (.aload_n 0, 1) := by decide +kernel
theorem d_Na_copyDigits_1 : decode b_Na_copyDigits 1 = .ok (.invokevirtual 34, 3) := by decide +kernel
theorem d_Na_copyDigits_4 : decode b_Na_copyDigits 4 = .ok (.istore_n 2, 1) := by decide +kernel
theorem d_Na_copyDigits_5 : decode b_Na_copyDigits 5 = .ok (.iconst 0, 1) := by decide +kernel
theorem d_Na_copyDigits_6 : decode b_Na_copyDigits 6 = .ok (.istore_n 3, 1) := by decide +kernel
theorem d_Na_copyDigits_7 : decode b_Na_copyDigits 7 = .ok (.iconst 0, 1) := by decide +kernel
theorem d_Na_copyDigits_8 : decode b_Na_copyDigits 8 = .ok (.istore 4, 2) := by decide +kernel
theorem d_Na_copyDigits_10 : decode b_Na_copyDigits 10 = .ok (.iload 4, 2) := by decide +kernel
theorem d_Na_copyDigits_12 : decode b_Na_copyDigits 12 = .ok (.iload_n 2, 1) := by decide +kernel
theorem d_Na_copyDigits_13 : decode b_Na_copyDigits 13 = .ok (.if_icmp .ge 59, 3) := by decide +kernel
theorem d_Na_copyDigits_16 : decode b_Na_copyDigits 16 = .ok (.iload 4, 2) := by decide +kernel
theorem d_Na_copyDigits_18 : decode b_Na_copyDigits 18 = .ok (.bipush 9, 2) := by decide +kernel
theorem d_Na_copyDigits_20 : decode b_Na_copyDigits 20 = .ok (.irem, 1) := by decide +kernel
theorem d_Na_copyDigits_21 : decode b_Na_copyDigits 21 = .ok (.ifCond .ne 16, 3) := by decide +kernel
theorem d_Na_copyDigits_24 : decode b_Na_copyDigits 24 = .ok (.aload_n 0, 1) := by decide +kernel
theorem d_Na_copyDigits_25 : decode b_Na_copyDigits 25 = .ok (.getfield 9, 3) := by decide +kernel
theorem d_Na_copyDigits_28 : decode b_Na_copyDigits 28 = .ok (.iload 4, 2) := by decide +kernel
theorem d_Na_copyDigits_30 : decode b_Na_copyDigits 30 = .ok (.bipush 9, 2) := by decide +kernel
theorem d_Na_copyDigits_32 : decode b_Na_copyDigits 32 = .ok (.idiv, 1) := by decide +kernel
theorem d_Na_copyDigits_33 : decode b_Na_copyDigits 33 = .ok (.iaload, 1) := by decide +kernel
theorem d_Na_copyDigits_34 : decode b_Na_copyDigits 34 = .ok (.goto 7, 3) := by decide +kernel
theorem d_Na_copyDigits_37 : decode b_Na_copyDigits 37 = .ok (.iload_n 3, 1) := by decide +kernel
theorem d_Na_copyDigits_38 : decode b_Na_copyDigits 38 = .ok (.bipush 10, 2) := by decide +kernel
theorem d_Na_copyDigits_40 : decode b_Na_copyDigits 40 = .ok (.idiv, 1) := by decide +kernel
theorem d_Na_copyDigits_41 : decode b_Na_copyDigits 41 = .ok (.istore_n 3, 1) := by decide +kernel
theorem d_Na_copyDigits_42 : decode b_Na_copyDigits 42 = .ok (.iload_n 2, 1) := by decide +kernel
theorem d_Na_copyDigits_43 : decode b_Na_copyDigits 43 = .ok (.iconst 1, 1) := by decide +kernel
theorem d_Na_copyDigits_44 : decode b_Na_copyDigits 44 = .ok (.isub, 1) := by decide +kernel
theorem d_Na_copyDigits_45 : decode b_Na_copyDigits 45 = .ok (.iload 4, 2) := by decide +kernel
theorem d_Na_copyDigits_47 : decode b_Na_copyDigits 47 = .ok (.isub, 1) := by decide +kernel
theorem d_Na_copyDigits_48 : decode b_Na_copyDigits 48 = .ok (.istore 5, 2) := by decide +kernel
theorem d_Na_copyDigits_50 : decode b_Na_copyDigits 50 = .ok (.iload 5, 2) := by decide +kernel
theorem d_Na_copyDigits_52 : decode b_Na_copyDigits 52 = .ok (.aload_n 1, 1) := by decide +kernel
theorem d_Na_copyDigits_53 : decode b_Na_copyDigits 53 = .ok (.arraylength, 1) := by decide +kernel
theorem d_Na_copyDigits_54 : decode b_Na_copyDigits 54 = .ok (.if_icmp .ge 12, 3) := by decide +kernel
theorem d_Na_copyDigits_57 : decode b_Na_copyDigits 57 = .ok (.aload_n 1, 1) := by decide +kernel
theorem d_Na_copyDigits_58 : decode b_Na_copyDigits 58 = .ok (.iload 5, 2) := by decide +kernel
theorem d_Na_copyDigits_60 : decode b_Na_copyDigits 60 = .ok (.iload_n 3, 1) := by decide +kernel
theorem d_Na_copyDigits_61 : decode b_Na_copyDigits 61 = .ok (.bipush 10, 2) := by decide +kernel
theorem d_Na_copyDigits_63 : decode b_Na_copyDigits 63 = .ok (.irem, 1) := by decide +kernel
theorem d_Na_copyDigits_64 : decode b_Na_copyDigits 64 = .ok (.i2b, 1) := by decide +kernel
theorem d_Na_copyDigits_65 : decode b_Na_copyDigits 65 = .ok (.bastore, 1) := by decide +kernel
theorem d_Na_copyDigits_66 : decode b_Na_copyDigits 66 = .ok (.iinc 4 1, 3) := by decide +kernel
theorem d_Na_copyDigits_69 : decode b_Na_copyDigits 69 = .ok (.goto (-59), 3) := by decide +kernel
theorem d_Na_copyDigits_72 : decode b_Na_copyDigits 72 = .ok (.aload_n 0, 1) := by decide +kernel
theorem d_Na_copyDigits_73 : decode b_Na_copyDigits 73 = .ok (.iload_n 2, 1) := by decide +kernel
theorem d_Na_copyDigits_74 : decode b_Na_copyDigits 74 = .ok (.aload_n 1, 1) := by decide +kernel
theorem d_Na_copyDigits_75 : decode b_Na_copyDigits 75 = .ok (.arraylength, 1) := by decide +kernel
theorem d_Na_copyDigits_76 : decode b_Na_copyDigits 76 = .ok (.isub, 1) := by decide +kernel
theorem d_Na_copyDigits_77 : decode b_Na_copyDigits 77 = .ok (.invokevirtual 38, 3) := by decide +kernel
theorem d_Na_copyDigits_80 : decode b_Na_copyDigits 80 = .ok (.ireturn, 1) := by decide +kernel
theorem d_Na_hasDigitBelow_0 : decode b_Na_hasDigitBelow 0 = .ok (.iload_n 1, 1) := by decide +kernel
theorem d_Na_hasDigitBelow_1 : decode b_Na_hasDigitBelow 1 = .ok (.aload_n 0, 1) := by decide +kernel
theorem d_Na_hasDigitBelow_2 : decode b_Na_hasDigitBelow 2 = .ok (.invokevirtual 34, 3) := by decide +kernel
theorem d_Na_hasDigitBelow_5 : decode b_Na_hasDigitBelow 5 = .ok (.invokestatic 21, 3) := by decide +kernel
theorem d_Na_hasDigitBelow_8 : decode b_Na_hasDigitBelow 8 = .ok (.istore_n 2, 1) := by decide +kernel
theorem d_Na_hasDigitBelow_9 : decode b_Na_hasDigitBelow 9 = .ok (.iconst 0, 1) := by decide +kernel
theorem d_Na_hasDigitBelow_10 : decode b_Na_hasDigitBelow 10 = .ok (.istore_n 3, 1) := by decide +kernel
theorem d_Na_hasDigitBelow_11 : decode b_Na_hasDigitBelow 11 = .ok (.iconst 0, 1) := by decide +kernel
theorem d_Na_hasDigitBelow_12 : decode b_Na_hasDigitBelow 12 = .ok (.istore 4, 2) := by decide +kernel
theorem d_Na_hasDigitBelow_14 : decode b_Na_hasDigitBelow 14 = .ok (.iload 4, 2) := by decide +kernel
theorem d_Na_hasDigitBelow_16 : decode b_Na_hasDigitBelow 16 = .ok (.iload_n 2, 1) := by decide +kernel
theorem d_Na_hasDigitBelow_17 : decode b_Na_hasDigitBelow 17 = .ok (.if_icmp .ge 44, 3) := by decide +kernel
theorem d_Na_hasDigitBelow_20 : decode b_Na_hasDigitBelow 20 = .ok (.iload 4, 2) := by decide +kernel
theorem d_Na_hasDigitBelow_22 : decode b_Na_hasDigitBelow 22 = .ok (.bipush 9, 2) := by decide +kernel
theorem d_Na_hasDigitBelow_24 : decode b_Na_hasDigitBelow 24 = .ok (.irem, 1) := by decide +kernel
theorem d_Na_hasDigitBelow_25 : decode b_Na_hasDigitBelow 25 = .ok (.ifCond .ne 16, 3) := by decide +kernel
theorem d_Na_hasDigitBelow_28 : decode b_Na_hasDigitBelow 28 = .ok (.aload_n 0, 1) := by decide +kernel
theorem d_Na_hasDigitBelow_29 : decode b_Na_hasDigitBelow 29 = .ok (.getfield 9, 3) := by decide +kernel
theorem d_Na_hasDigitBelow_32 : decode b_Na_hasDigitBelow 32 = .ok (.iload 4, 2) := by decide +kernel
theorem d_Na_hasDigitBelow_34 : decode b_Na_hasDigitBelow 34 = .ok (.bipush 9, 2) := by decide +kernel
theorem d_Na_hasDigitBelow_36 : decode b_Na_hasDigitBelow 36 = .ok (.idiv, 1) := by decide +kernel
theorem d_Na_hasDigitBelow_37 : decode b_Na_hasDigitBelow 37 = .ok (.iaload, 1) := by decide +kernel
theorem d_Na_hasDigitBelow_38 : decode b_Na_hasDigitBelow 38 = .ok (.goto 7, 3) := by decide +kernel
theorem d_Na_hasDigitBelow_41 : decode b_Na_hasDigitBelow 41 = .ok (.iload_n 3, 1) := by decide +kernel
theorem d_Na_hasDigitBelow_42 : decode b_Na_hasDigitBelow 42 = .ok (.bipush 10, 2) := by decide +kernel
theorem d_Na_hasDigitBelow_44 : decode b_Na_hasDigitBelow 44 = .ok (.idiv, 1) := by decide +kernel
theorem d_Na_hasDigitBelow_45 : decode b_Na_hasDigitBelow 45 = .ok (.istore_n 3, 1) := by decide +kernel
theorem d_Na_hasDigitBelow_46 : decode b_Na_hasDigitBelow 46 = .ok (.iload_n 3, 1) := by decide +kernel
theorem d_Na_hasDigitBelow_47 : decode b_Na_hasDigitBelow 47 = .ok (.bipush 10, 2) := by decide +kernel
theorem d_Na_hasDigitBelow_49 : decode b_Na_hasDigitBelow 49 = .ok (.irem, 1) := by decide +kernel
theorem d_Na_hasDigitBelow_50 : decode b_Na_hasDigitBelow 50 = .ok (.ifCond .eq 5, 3) := by decide +kernel
theorem d_Na_hasDigitBelow_53 : decode b_Na_hasDigitBelow 53 = .ok (.iconst 1, 1) := by decide +kernel
theorem d_Na_hasDigitBelow_54 : decode b_Na_hasDigitBelow 54 = .ok (.ireturn, 1) := by decide +kernel
theorem d_Na_hasDigitBelow_55 : decode b_Na_hasDigitBelow 55 = .ok (.iinc 4 1, 3) := by decide +kernel
theorem d_Na_hasDigitBelow_58 : decode b_Na_hasDigitBelow 58 = .ok (.goto (-44), 3) := by decide +kernel
theorem d_Na_hasDigitBelow_61 : decode b_Na_hasDigitBelow 61 = .ok (.iconst 0, 1) := by decide +kernel
theorem d_Na_hasDigitBelow_62 : decode b_Na_hasDigitBelow 62 = .ok (.ireturn, 1) := by decide +kernel
theorem d_Na_setDigits_0 : decode b_Na_setDigits 0 = .ok (.iconst 0, 1) := by decide +kernel
theorem d_Na_setDigits_1 : decode b_Na_setDigits 1 = .ok (.istore_n 3, 1) := by decide +kernel
theorem d_Na_setDigits_2 : decode b_Na_setDigits 2 = .ok (.aload_n 0, 1) := by decide +kernel
theorem d_Na_setDigits_3 : decode b_Na_setDigits 3 = .ok (.iload_n 2, 1) := by decide +kernel
theorem d_Na_setDigits_4 : decode b_Na_setDigits 4 = .ok (.bipush 9, 2) := by decide +kernel
theorem d_Na_setDigits_6 : decode b_Na_setDigits 6 = .ok (.iadd, 1) := by decide +kernel
theorem d_Na_setDigits_7 : decode b_Na_setDigits 7 = .ok (.iconst 1, 1) := by decide +kernel
theorem d_Na_setDigits_8 : decode b_Na_setDigits 8 = .ok (.isub, 1) := by decide +kernel
theorem d_Na_setDigits_9 : decode b_Na_setDigits 9 = .ok (.bipush 9, 2) := by decide +kernel
theorem d_Na_setDigits_11 : decode b_Na_setDigits 11 = .ok (.idiv, 1) := by decide +kernel
theorem d_Na_setDigits_12 : decode b_Na_setDigits 12 = .ok (.putfield 13, 3) := by decide +kernel
theorem d_Na_setDigits_15 : decode b_Na_setDigits 15 = .ok (.iconst 0, 1) := by decide +kernel
theorem d_Na_setDigits_16 : decode b_Na_setDigits 16 = .ok (.istore 4, 2) := by decide +kernel
theorem d_Na_setDigits_18 : decode b_Na_setDigits 18 = .ok (.iload 4, 2) := by decide +kernel
theorem d_Na_setDigits_20 : decode b_Na_setDigits 20 = .ok (.iload_n 2, 1) := by decide +kernel
theorem d_Na_setDigits_21 : decode b_Na_setDigits 21 = .ok (.if_icmp .ge 48, 3) := by decide +kernel
theorem d_Na_setDigits_24 : decode b_Na_setDigits 24 = .ok (.iload_n 2, 1) := by decide +kernel
theorem d_Na_setDigits_25 : decode b_Na_setDigits 25 = .ok (.iconst 1, 1) := by decide +kernel
theorem d_Na_setDigits_26 : decode b_Na_setDigits 26 = .ok (.isub, 1) := by decide +kernel
theorem d_Na_setDigits_27 : decode b_Na_setDigits 27 = .ok (.iload 4, 2) := by decide +kernel
theorem d_Na_setDigits_29 : decode b_Na_setDigits 29 = .ok (.isub, 1) := by decide +kernel
theorem d_Na_setDigits_30 : decode b_Na_setDigits 30 = .ok (.istore 5, 2) := by decide +kernel
theorem d_Na_setDigits_32 : decode b_Na_setDigits 32 = .ok (.iload_n 3, 1) := by decide +kernel
theorem d_Na_setDigits_33 : decode b_Na_setDigits 33 = .ok (.bipush 10, 2) := by decide +kernel
theorem d_Na_setDigits_35 : decode b_Na_setDigits 35 = .ok (.imul, 1) := by decide +kernel
theorem d_Na_setDigits_36 : decode b_Na_setDigits 36 = .ok (.aload_n 1, 1) := by decide +kernel
theorem d_Na_setDigits_37 : decode b_Na_setDigits 37 = .ok (.iload 4, 2) := by decide +kernel
theorem d_Na_setDigits_39 : decode b_Na_setDigits 39 = .ok (.baload, 1) := by decide +kernel
theorem d_Na_setDigits_40 : decode b_Na_setDigits 40 = .ok (.iadd, 1) := by decide +kernel
theorem d_Na_setDigits_41 : decode b_Na_setDigits 41 = .ok (.istore_n 3, 1) := by decide +kernel
theorem d_Na_setDigits_42 : decode b_Na_setDigits 42 = .ok (.iload 5, 2) := by decide +kernel
theorem d_Na_setDigits_44 : decode b_Na_setDigits 44 = .ok (.bipush 9, 2) := by decide +kernel
theorem d_Na_setDigits_46 : decode b_Na_setDigits 46 = .ok (.irem, 1) := by decide +kernel
theorem d_Na_setDigits_47 : decode b_Na_setDigits 47 = .ok (.ifCond .ne 16, 3) := by decide +kernel
theorem d_Na_setDigits_50 : decode b_Na_setDigits 50 = .ok (.aload_n 0, 1) := by decide +kernel
theorem d_Na_setDigits_51 : decode b_Na_setDigits 51 = .ok (.getfield 9, 3) := by decide +kernel
theorem d_Na_setDigits_54 : decode b_Na_setDigits 54 = .ok (.iload 5, 2) := by decide +kernel
theorem d_Na_setDigits_56 : decode b_Na_setDigits 56 = .ok (.bipush 9, 2) := by decide +kernel
theorem d_Na_setDigits_58 : decode b_Na_setDigits 58 = .ok (.idiv, 1) := by decide +kernel
theorem d_Na_setDigits_59 : decode b_Na_setDigits 59 = .ok (.iload_n 3, 1) := by decide +kernel
theorem d_Na_setDigits_60 : decode b_Na_setDigits 60 = .ok (.iastore, 1) := by decide +kernel
theorem d_Na_setDigits_61 : decode b_Na_setDigits 61 = .ok (.iconst 0, 1) := by decide +kernel
theorem d_Na_setDigits_62 : decode b_Na_setDigits 62 = .ok (.istore_n 3, 1) := by decide +kernel
theorem d_Na_setDigits_63 : decode b_Na_setDigits 63 = .ok (.iinc 4 1, 3) := by decide +kernel
theorem d_Na_setDigits_66 : decode b_Na_setDigits 66 = .ok (.goto (-48), 3) := by decide +kernel
theorem d_Na_setDigits_69 : decode b_Na_setDigits 69 = .ok (.return_, 1) := by decide +kernel
theorem d_Na_timesTwoTo_0 : decode b_Na_timesTwoTo 0 = .ok (.iload_n 1, 1) := by decide +kernel
theorem d_Na_timesTwoTo_1 : decode b_Na_timesTwoTo 1 = .ok (.istore_n 2, 1) := by decide +kernel
theorem d_Na_timesTwoTo_2 : decode b_Na_timesTwoTo 2 = .ok (.iload_n 2, 1) := by decide +kernel
theorem d_Na_timesTwoTo_3 : decode b_Na_timesTwoTo 3 = .ok (.ifCond .le 21, 3) := by decide +kernel
theorem d_Na_timesTwoTo_6 : decode b_Na_timesTwoTo 6 = .ok (.aload_n 0, 1) := by decide +kernel
theorem d_Na_timesTwoTo_7 : decode b_Na_timesTwoTo 7 = .ok (.iconst 1, 1) := by decide +kernel
theorem d_Na_timesTwoTo_8 : decode b_Na_timesTwoTo 8 = .ok (.iload_n 2, 1) := by decide +kernel
theorem d_Na_timesTwoTo_9 : decode b_Na_timesTwoTo 9 = .ok (.bipush 29, 2) := by decide +kernel
theorem d_Na_timesTwoTo_11 : decode b_Na_timesTwoTo 11 = .ok (.invokestatic 21, 3) := by decide +kernel
theorem d_Na_timesTwoTo_14 : decode b_Na_timesTwoTo 14 = .ok (.ishl, 1) := by decide +kernel
theorem d_Na_timesTwoTo_15 : decode b_Na_timesTwoTo 15 = .ok (.invokevirtual 27, 3) := by decide +kernel
theorem d_Na_timesTwoTo_18 : decode b_Na_timesTwoTo 18 = .ok (.iinc 2 (-29), 3) := by decide +kernel
theorem d_Na_timesTwoTo_21 : decode b_Na_timesTwoTo 21 = .ok (.goto (-19), 3) := by decide +kernel
theorem d_Na_timesTwoTo_24 : decode b_Na_timesTwoTo 24 = .ok (.iload_n 1, 1) := by decide +kernel
theorem d_Na_timesTwoTo_25 : decode b_Na_timesTwoTo 25 = .ok (.ineg, 1) := by decide +kernel
theorem d_Na_timesTwoTo_26 : decode b_Na_timesTwoTo 26 = .ok (.istore_n 2, 1) := by decide +kernel
theorem d_Na_timesTwoTo_27 : decode b_Na_timesTwoTo 27 = .ok (.iload_n 2, 1) := by decide +kernel
theorem d_Na_timesTwoTo_28 : decode b_Na_timesTwoTo 28 = .ok (.ifCond .le 23, 3) := by decide +kernel
theorem d_Na_timesTwoTo_31 : decode b_Na_timesTwoTo 31 = .ok (.aload_n 0, 1) := by decide +kernel
theorem d_Na_timesTwoTo_32 : decode b_Na_timesTwoTo 32 = .ok (.getstatic 31, 3) := by decide +kernel
theorem d_Na_timesTwoTo_35 : decode b_Na_timesTwoTo 35 = .ok (.iload_n 2, 1) := by decide +kernel
theorem d_Na_timesTwoTo_36 : decode b_Na_timesTwoTo 36 = .ok (.bipush 12, 2) := by decide +kernel
theorem d_Na_timesTwoTo_38 : decode b_Na_timesTwoTo 38 = .ok (.invokestatic 21, 3) := by decide +kernel
theorem d_Na_timesTwoTo_41 : decode b_Na_timesTwoTo 41 = .ok (.iaload, 1) := by decide +kernel
theorem d_Na_timesTwoTo_42 : decode b_Na_timesTwoTo 42 = .ok (.invokevirtual 27, 3) := by decide +kernel
theorem d_Na_timesTwoTo_45 : decode b_Na_timesTwoTo 45 = .ok (.iinc 2 (-12), 3) := by decide +kernel
theorem d_Na_timesTwoTo_48 : decode b_Na_timesTwoTo 48 = .ok (.goto (-21), 3) := by decide +kernel
theorem d_Na_timesTwoTo_51 : decode b_Na_timesTwoTo 51 = .ok (.iload_n 1, 1) := by decide +kernel
theorem d_Na_timesTwoTo_52 : decode b_Na_timesTwoTo 52 = .ok (.iconst 0, 1) := by decide +kernel
theorem d_Na_timesTwoTo_53 : decode b_Na_timesTwoTo 53 = .ok (.invokestatic 21, 3) := by decide +kernel
theorem d_Na_timesTwoTo_56 : decode b_Na_timesTwoTo 56 = .ok (.ireturn, 1) := by decide +kernel
theorem d_Na_times_0 : decode b_Na_times 0 = .ok (.lconst 0, 1) := by decide +kernel
theorem d_Na_times_1 : decode b_Na_times 1 = .ok (.lstore_n 2, 1) := by decide +kernel
theorem d_Na_times_2 : decode b_Na_times 2 = .ok (.iconst 0, 1) := by decide +kernel
theorem d_Na_times_3 : decode b_Na_times 3 = .ok (.istore 4, 2) := by decide +kernel
theorem d_Na_times_5 : decode b_Na_times 5 = .ok (.iload 4, 2) := by decide +kernel
theorem d_Na_times_7 : decode b_Na_times 7 = .ok (.aload_n 0, 1) := by decide +kernel
theorem d_Na_times_8 : decode b_Na_times 8 = .ok (.getfield 13, 3) := by decide +kernel
theorem d_Na_times_11 : decode b_Na_times 11 = .ok (.if_icmp .ge 47, 3) := by decide +kernel
theorem d_Na_times_14 : decode b_Na_times 14 = .ok (.aload_n 0, 1) := by decide +kernel
theorem d_Na_times_15 : decode b_Na_times 15 = .ok (.getfield 9, 3) := by decide +kernel
theorem d_Na_times_18 : decode b_Na_times 18 = .ok (.iload 4, 2) := by decide +kernel
theorem d_Na_times_20 : decode b_Na_times 20 = .ok (.iaload, 1) := by decide +kernel
theorem d_Na_times_21 : decode b_Na_times 21 = .ok (.i2l, 1) := by decide +kernel
theorem d_Na_times_22 : decode b_Na_times 22 = .ok (.iload_n 1, 1) := by decide +kernel
theorem d_Na_times_23 : decode b_Na_times 23 = .ok (.i2l, 1) := by decide +kernel
theorem d_Na_times_24 : decode b_Na_times 24 = .ok (.lmul, 1) := by decide +kernel
theorem d_Na_times_25 : decode b_Na_times 25 = .ok (.lload_n 2, 1) := by decide +kernel
theorem d_Na_times_26 : decode b_Na_times 26 = .ok (.ladd, 1) := by decide +kernel
theorem d_Na_times_27 : decode b_Na_times 27 = .ok (.lstore 5, 2) := by decide +kernel
theorem d_Na_times_29 : decode b_Na_times 29 = .ok (.lload 5, 2) := by decide +kernel
theorem d_Na_times_31 : decode b_Na_times 31 = .ok (.ldc2_w 19, 3) := by decide +kernel
theorem d_Na_times_34 : decode b_Na_times 34 = .ok (.ldiv, 1) := by decide +kernel
theorem d_Na_times_35 : decode b_Na_times 35 = .ok (.lstore_n 2, 1) := by decide +kernel
theorem d_Na_times_36 : decode b_Na_times 36 = .ok (.aload_n 0, 1) := by decide +kernel
theorem d_Na_times_37 : decode b_Na_times 37 = .ok (.getfield 9, 3) := by decide +kernel
theorem d_Na_times_40 : decode b_Na_times 40 = .ok (.iload 4, 2) := by decide +kernel
theorem d_Na_times_42 : decode b_Na_times 42 = .ok (.lload 5, 2) := by decide +kernel
theorem d_Na_times_44 : decode b_Na_times 44 = .ok (.lload_n 2, 1) := by decide +kernel
theorem d_Na_times_45 : decode b_Na_times 45 = .ok (.ldc2_w 19, 3) := by decide +kernel
theorem d_Na_times_48 : decode b_Na_times 48 = .ok (.lmul, 1) := by decide +kernel
theorem d_Na_times_49 : decode b_Na_times 49 = .ok (.lsub, 1) := by decide +kernel
theorem d_Na_times_50 : decode b_Na_times 50 = .ok (.l2i, 1) := by decide +kernel
theorem d_Na_times_51 : decode b_Na_times 51 = .ok (.iastore, 1) := by decide +kernel
theorem d_Na_times_52 : decode b_Na_times 52 = .ok (.iinc 4 1, 3) := by decide +kernel
theorem d_Na_times_55 : decode b_Na_times 55 = .ok (.goto (-50), 3) := by decide +kernel
theorem d_Na_times_58 : decode b_Na_times 58 = .ok (.lload_n 2, 1) := by decide +kernel
theorem d_Na_times_59 : decode b_Na_times 59 = .ok (.lconst 0, 1) := by decide +kernel
theorem d_Na_times_60 : decode b_Na_times 60 = .ok (.lcmp, 1) := by decide +kernel
theorem d_Na_times_61 : decode b_Na_times 61 = .ok (.ifCond .eq 36, 3) := by decide +kernel
theorem d_Na_times_64 : decode b_Na_times 64 = .ok (.aload_n 0, 1) := by decide +kernel
theorem d_Na_times_65 : decode b_Na_times 65 = .ok (.getfield 13, 3) := by decide +kernel
theorem d_Na_times_68 : decode b_Na_times 68 = .ok (.aload_n 0, 1) := by decide +kernel
theorem d_Na_times_69 : decode b_Na_times 69 = .ok (.getfield 9, 3) := by decide +kernel
theorem d_Na_times_72 : decode b_Na_times 72 = .ok (.arraylength, 1) := by decide +kernel
theorem d_Na_times_73 : decode b_Na_times 73 = .ok (.if_icmp .ge 24, 3) := by decide +kernel
theorem d_Na_times_76 : decode b_Na_times 76 = .ok (.aload_n 0, 1) := by decide +kernel
theorem d_Na_times_77 : decode b_Na_times 77 = .ok (.getfield 9, 3) := by decide +kernel
theorem d_Na_times_80 : decode b_Na_times 80 = .ok (.aload_n 0, 1) := by decide +kernel
theorem d_Na_times_81 : decode b_Na_times 81 = .ok (.getfield 13, 3) := by decide +kernel
theorem d_Na_times_84 : decode b_Na_times 84 = .ok (.lload_n 2, 1) := by decide +kernel
theorem d_Na_times_85 : decode b_Na_times 85 = .ok (.l2i, 1) := by decide +kernel
theorem d_Na_times_86 : decode b_Na_times 86 = .ok (.iastore, 1) := by decide +kernel
theorem d_Na_times_87 : decode b_Na_times 87 = .ok (.aload_n 0, 1) := by decide +kernel
theorem d_Na_times_88 : decode b_Na_times 88 = .ok (.dup, 1) := by decide +kernel
theorem d_Na_times_89 : decode b_Na_times 89 = .ok (.getfield 13, 3) := by decide +kernel
theorem d_Na_times_92 : decode b_Na_times 92 = .ok (.iconst 1, 1) := by decide +kernel
theorem d_Na_times_93 : decode b_Na_times 93 = .ok (.iadd, 1) := by decide +kernel
theorem d_Na_times_94 : decode b_Na_times 94 = .ok (.putfield 13, 3) := by decide +kernel
theorem d_Na_times_97 : decode b_Na_times 97 = .ok (.return_, 1) := by decide +kernel
theorem d_Na_firstDigits_0 : decode b_Na_firstDigits 0 = .ok (.aload_n 0, 1) := by decide +kernel
theorem d_Na_firstDigits_1 : decode b_Na_firstDigits 1 = .ok (.invokevirtual 34, 3) := by decide +kernel
theorem d_Na_firstDigits_4 : decode b_Na_firstDigits 4 = .ok (.istore_n 2, 1) := by decide +kernel
theorem d_Na_firstDigits_5 : decode b_Na_firstDigits 5 = .ok (.lconst 0, 1) := by decide +kernel
theorem d_Na_firstDigits_6 : decode b_Na_firstDigits 6 = .ok (.lstore_n 3, 1) := by decide +kernel
theorem d_Na_firstDigits_7 : decode b_Na_firstDigits 7 = .ok (.iconst 0, 1) := by decide +kernel
theorem d_Na_firstDigits_8 : decode b_Na_firstDigits 8 = .ok (.istore 5, 2) := by decide +kernel
theorem d_Na_firstDigits_10 : decode b_Na_firstDigits 10 = .ok (.iload 5, 2) := by decide +kernel
theorem d_Na_firstDigits_12 : decode b_Na_firstDigits 12 = .ok (.iload_n 1, 1) := by decide +kernel
theorem d_Na_firstDigits_13 : decode b_Na_firstDigits 13 = .ok (.if_icmp .ge 37, 3) := by decide +kernel
theorem d_Na_firstDigits_16 : decode b_Na_firstDigits 16 = .ok (.lload_n 3, 1) := by decide +kernel
theorem d_Na_firstDigits_17 : decode b_Na_firstDigits 17 = .ok (.ldc2_w 42, 3) := by decide +kernel
theorem d_Na_firstDigits_20 : decode b_Na_firstDigits 20 = .ok (.lmul, 1) := by decide +kernel
theorem d_Na_firstDigits_21 : decode b_Na_firstDigits 21 = .ok (.iload 5, 2) := by decide +kernel
theorem d_Na_firstDigits_23 : decode b_Na_firstDigits 23 = .ok (.iload_n 2, 1) := by decide +kernel
theorem d_Na_firstDigits_24 : decode b_Na_firstDigits 24 = .ok (.if_icmp .ge 16, 3) := by decide +kernel
theorem d_Na_firstDigits_27 : decode b_Na_firstDigits 27 = .ok (.aload_n 0, 1) := by decide +kernel
theorem d_Na_firstDigits_28 : decode b_Na_firstDigits 28 = .ok (.iload_n 2, 1) := by decide +kernel
theorem d_Na_firstDigits_29 : decode b_Na_firstDigits 29 = .ok (.iconst 1, 1) := by decide +kernel
theorem d_Na_firstDigits_30 : decode b_Na_firstDigits 30 = .ok (.isub, 1) := by decide +kernel
theorem d_Na_firstDigits_31 : decode b_Na_firstDigits 31 = .ok (.iload 5, 2) := by decide +kernel
theorem d_Na_firstDigits_33 : decode b_Na_firstDigits 33 = .ok (.isub, 1) := by decide +kernel
theorem d_Na_firstDigits_34 : decode b_Na_firstDigits 34 = .ok (.invokevirtual 44, 3) := by decide +kernel
theorem d_Na_firstDigits_37 : decode b_Na_firstDigits 37 = .ok (.goto 4, 3) := by decide +kernel
theorem d_Na_firstDigits_40 : decode b_Na_firstDigits 40 = .ok (.iconst 0, 1) := by decide +kernel
theorem d_Na_firstDigits_41 : decode b_Na_firstDigits 41 = .ok (.i2l, 1) := by decide +kernel
theorem d_Na_firstDigits_42 : decode b_Na_firstDigits 42 = .ok (.ladd, 1) := by decide +kernel
theorem d_Na_firstDigits_43 : decode b_Na_firstDigits 43 = .ok (.lstore_n 3, 1) := by decide +kernel
theorem d_Na_firstDigits_44 : decode b_Na_firstDigits 44 = .ok (.iinc 5 1, 3) := by decide +kernel
theorem d_Na_firstDigits_47 : decode b_Na_firstDigits 47 = .ok (.goto (-37), 3) := by decide +kernel
theorem d_Na_firstDigits_50 : decode b_Na_firstDigits 50 = .ok (.lload_n 3, 1) := by decide +kernel
theorem d_Na_firstDigits_51 : decode b_Na_firstDigits 51 = .ok (.lreturn, 1) := by decide +kernel
theorem d_Na_digitAt_0 : decode b_Na_digitAt 0 = .ok (.aload_n 0, 1) := by decide +kernel
theorem d_Na_digitAt_1 : decode b_Na_digitAt 1 = .ok (.getfield 9, 3) := by decide +kernel
theorem d_Na_digitAt_4 : decode b_Na_digitAt 4 = .ok (.iload_n 1, 1) := by decide +kernel
theorem d_Na_digitAt_5 : decode b_Na_digitAt 5 = .ok (.bipush 9, 2) := by decide +kernel
theorem d_Na_digitAt_7 : decode b_Na_digitAt 7 = .ok (.idiv, 1) := by decide +kernel
theorem d_Na_digitAt_8 : decode b_Na_digitAt 8 = .ok (.iaload, 1) := by decide +kernel
theorem d_Na_digitAt_9 : decode b_Na_digitAt 9 = .ok (.istore_n 2, 1) := by decide +kernel
theorem d_Na_digitAt_10 : decode b_Na_digitAt 10 = .ok (.iload_n 1, 1) := by decide +kernel
theorem d_Na_digitAt_11 : decode b_Na_digitAt 11 = .ok (.bipush 9, 2) := by decide +kernel
theorem d_Na_digitAt_13 : decode b_Na_digitAt 13 = .ok (.irem, 1) := by decide +kernel
theorem d_Na_digitAt_14 : decode b_Na_digitAt 14 = .ok (.istore_n 3, 1) := by decide +kernel
theorem d_Na_digitAt_15 : decode b_Na_digitAt 15 = .ok (.iload_n 3, 1) := by decide +kernel
theorem d_Na_digitAt_16 : decode b_Na_digitAt 16 = .ok (.ifCond .le 14, 3) := by decide +kernel
theorem d_Na_digitAt_19 : decode b_Na_digitAt 19 = .ok (.iload_n 2, 1) := by decide +kernel
theorem d_Na_digitAt_20 : decode b_Na_digitAt 20 = .ok (.bipush 10, 2) := by decide +kernel
theorem d_Na_digitAt_22 : decode b_Na_digitAt 22 = .ok (.idiv, 1) := by decide +kernel
theorem d_Na_digitAt_23 : decode b_Na_digitAt 23 = .ok (.istore_n 2, 1) := by decide +kernel
theorem d_Na_digitAt_24 : decode b_Na_digitAt 24 = .ok (.iinc 3 (-1), 3) := by decide +kernel
theorem d_Na_digitAt_27 : decode b_Na_digitAt 27 = .ok (.goto (-12), 3) := by decide +kernel
theorem d_Na_digitAt_30 : decode b_Na_digitAt 30 = .ok (.iload_n 2, 1) := by decide +kernel
theorem d_Na_digitAt_31 : decode b_Na_digitAt 31 = .ok (.bipush 10, 2) := by decide +kernel
theorem d_Na_digitAt_33 : decode b_Na_digitAt 33 = .ok (.irem, 1) := by decide +kernel
theorem d_Na_digitAt_34 : decode b_Na_digitAt 34 = .ok (.ireturn, 1) := by decide +kernel
end
section
theorem d_Ed_init_0 : decode b_Ed_init 0 = .ok (.aload_n 0, 1) := by decide +kernel
theorem d_Ed_init_1 : decode b_Ed_init 1 = .ok (.invokespecial 1, 3) := by decide +kernel
theorem d_Ed_init_4 : decode b_Ed_init 4 = .ok (.aload_n 0, 1) := by decide +kernel
theorem d_Ed_init_5 : decode b_Ed_init 5 = .ok (.sipush 1200, 3) := by decide +kernel
theorem d_Ed_init_8 : decode b_Ed_init 8 = .ok (.newarray .byte, 2) := by decide +kernel
theorem d_Ed_init_10 : decode b_Ed_init 10 = .ok (.putfield 9, 3) := by decide +kernel
theorem d_Ed_init_13 : decode b_Ed_init 13 = .ok (.aload_n 0, 1) := by decide +kernel
theorem d_Ed_init_14 : decode b_Ed_init 14 = .ok (.new 13, 3) := by decide +kernel
theorem d_Ed_init_17 : decode b_Ed_init 17 = .ok (.dup, 1) := by decide +kernel
theorem d_Ed_init_18 : decode b_Ed_init 18 = .ok (.invokespecial 15, 3) := by decide +kernel
theorem d_Ed_init_21 : decode b_Ed_init 21 = .ok (.putfield 16, 3) := by decide +kernel
theorem d_Ed_init_24 : decode b_Ed_init 24 = .ok (.aload_n 0, 1) := by decide +kernel
theorem d_Ed_init_25 : decode b_Ed_init 25 = .ok (.iconst 0, 1) := by decide +kernel
theorem d_Ed_init_26 : decode b_Ed_init 26 = .ok (.putfield 20, 3) := by decide +kernel
theorem d_Ed_init_29 : decode b_Ed_init 29 = .ok (.aload_n 0, 1) := by decide +kernel
theorem d_Ed_init_30 : decode b_Ed_init 30 = .ok (.iconst 0, 1) := by decide +kernel
theorem d_Ed_init_31 : decode b_Ed_init 31 = .ok (.putfield 24, 3) := by decide +kernel
theorem d_Ed_init_34 : decode b_Ed_init 34 = .ok (.aload_n 0, 1) := by decide +kernel
theorem d_Ed_init_35 : decode b_Ed_init 35 = .ok (.iconst 0, 1) := by decide +kernel
theorem d_Ed_init_36 : decode b_Ed_init 36 = .ok (.putfield 27, 3) := by decide +kernel
theorem d_Ed_init_39 : decode b_Ed_init 39 = .ok (.return_, 1) := by decide +kernel
theorem d_Ed_whole_0 : decode b_Ed_whole 0 = .ok (.aload_n 0, 1) := by decide +kernel
theorem d_Ed_whole_1 : decode b_Ed_whole 1 = .ok (.getfield 16, 3) := by decide +kernel
theorem d_Ed_whole_4 : decode b_Ed_whole 4 = .ok (.lload_n 1, 1) := by decide +kernel
theorem d_Ed_whole_5 : decode b_Ed_whole 5 = .ok (.invokevirtual 31, 3) := by decide +kernel
theorem d_Ed_whole_8 : decode b_Ed_whole 8 = .ok (.aload_n 0, 1) := by decide +kernel
theorem d_Ed_whole_9 : decode b_Ed_whole 9 = .ok (.iconst 0, 1) := by decide +kernel
theorem d_Ed_whole_10 : decode b_Ed_whole 10 = .ok (.invokevirtual 35, 3) := by decide +kernel
theorem d_Ed_whole_13 : decode b_Ed_whole 13 = .ok (.aload_n 0, 1) := by decide +kernel
theorem d_Ed_whole_14 : decode b_Ed_whole 14 = .ok (.getfield 20, 3) := by decide +kernel
theorem d_Ed_whole_17 : decode b_Ed_whole 17 = .ok (.ireturn, 1) := by decide +kernel
theorem d_Ed_giveScratch_0 : decode b_Ed_giveScratch 0 = .ok (.aload_n 0, 1) := by decide +kernel
theorem d_Ed_giveScratch_1 : decode b_Ed_giveScratch 1 = .ok (.getfield 16, 3) := by decide +kernel
theorem d_Ed_giveScratch_4 : decode b_Ed_giveScratch 4 = .ok (.invokevirtual 107, 3) := by decide +kernel
theorem d_Ed_giveScratch_7 : decode b_Ed_giveScratch 7 = .ok (.istore_n 2, 1) := by decide +kernel
theorem d_Ed_giveScratch_8 : decode b_Ed_giveScratch 8 = .ok (.aload_n 0, 1) := by decide +kernel
theorem d_Ed_giveScratch_9 : decode b_Ed_giveScratch 9 = .ok (.aload_n 0, 1) := by decide +kernel
theorem d_Ed_giveScratch_10 : decode b_Ed_giveScratch 10 = .ok (.getfield 16, 3) := by decide +kernel
theorem d_Ed_giveScratch_13 : decode b_Ed_giveScratch 13 = .ok (.aload_n 0, 1) := by decide +kernel
theorem d_Ed_giveScratch_14 : decode b_Ed_giveScratch 14 = .ok (.getfield 9, 3) := by decide +kernel
theorem d_Ed_giveScratch_17 : decode b_Ed_giveScratch 17 = .ok (.invokevirtual 111, 3) := by decide +kernel
theorem d_Ed_giveScratch_20 : decode b_Ed_giveScratch 20 = .ok (.putfield 27, 3) := by decide +kernel
theorem d_Ed_giveScratch_23 : decode b_Ed_giveScratch 23 = .ok (.aload_n 0, 1) := by decide +kernel
theorem d_Ed_giveScratch_24 : decode b_Ed_giveScratch 24 = .ok (.iload_n 2, 1) := by decide +kernel
theorem d_Ed_giveScratch_25 : decode b_Ed_giveScratch 25 = .ok (.sipush 1200, 3) := by decide +kernel
theorem d_Ed_giveScratch_28 : decode b_Ed_giveScratch 28 = .ok (.invokestatic 115, 3) := by decide +kernel
theorem d_Ed_giveScratch_31 : decode b_Ed_giveScratch 31 = .ok (.putfield 20, 3) := by decide +kernel
theorem d_Ed_giveScratch_34 : decode b_Ed_giveScratch 34 = .ok (.aload_n 0, 1) := by decide +kernel
theorem d_Ed_giveScratch_35 : decode b_Ed_giveScratch 35 = .ok (.iload_n 2, 1) := by decide +kernel
theorem d_Ed_giveScratch_36 : decode b_Ed_giveScratch 36 = .ok (.iload_n 1, 1) := by decide +kernel
theorem d_Ed_giveScratch_37 : decode b_Ed_giveScratch 37 = .ok (.iadd, 1) := by decide +kernel
theorem d_Ed_giveScratch_38 : decode b_Ed_giveScratch 38 = .ok (.putfield 24, 3) := by decide +kernel
theorem d_Ed_giveScratch_41 : decode b_Ed_giveScratch 41 = .ok (.aload_n 0, 1) := by decide +kernel
theorem d_Ed_giveScratch_42 : decode b_Ed_giveScratch 42 = .ok (.invokevirtual 121, 3) := by decide +kernel
theorem d_Ed_giveScratch_45 : decode b_Ed_giveScratch 45 = .ok (.return_, 1) := by decide +kernel
theorem d_Ed_dropZerosBehind_0 : decode b_Ed_dropZerosBehind 0 = .ok (.aload_n 0, 1) := by decide +kernel
theorem d_Ed_dropZerosBehind_1 : decode b_Ed_dropZerosBehind 1 = .ok (.getfield 20, 3) := by decide +kernel
theorem d_Ed_dropZerosBehind_4 : decode b_Ed_dropZerosBehind 4 = .ok (.ifCond .le 30, 3) := by decide +kernel
theorem d_Ed_dropZerosBehind_7 : decode b_Ed_dropZerosBehind 7 = .ok (.aload_n 0, 1) := by decide +kernel
theorem d_Ed_dropZerosBehind_8 : decode b_Ed_dropZerosBehind 8 = .ok (.getfield 9, 3) := by decide +kernel
theorem d_Ed_dropZerosBehind_11 : decode b_Ed_dropZerosBehind 11 = .ok (.aload_n 0, 1) := by decide +kernel
theorem d_Ed_dropZerosBehind_12 : decode b_Ed_dropZerosBehind 12 = .ok (.getfield 20, 3) := by decide +kernel
theorem d_Ed_dropZerosBehind_15 : decode b_Ed_dropZerosBehind 15 = .ok (.iconst 1, 1) := by decide +kernel
theorem d_Ed_dropZerosBehind_16 : decode b_Ed_dropZerosBehind 16 = .ok (.isub, 1) := by decide +kernel
theorem d_Ed_dropZerosBehind_17 : decode b_Ed_dropZerosBehind 17 = .ok (.baload, 1) := by decide +kernel
theorem d_Ed_dropZerosBehind_18 : decode b_Ed_dropZerosBehind 18 = .ok (.ifCond .ne 16, 3) := by decide +kernel
theorem d_Ed_dropZerosBehind_21 : decode b_Ed_dropZerosBehind 21 = .ok (.aload_n 0, 1) := by decide +kernel
theorem d_Ed_dropZerosBehind_22 : decode b_Ed_dropZerosBehind 22 = .ok (.dup, 1) := by decide +kernel
theorem d_Ed_dropZerosBehind_23 : decode b_Ed_dropZerosBehind 23 = .ok (.getfield 20, 3) := by decide +kernel
theorem d_Ed_dropZerosBehind_26 : decode b_Ed_dropZerosBehind 26 = .ok (.iconst 1, 1) := by decide +kernel
theorem d_Ed_dropZerosBehind_27 : decode b_Ed_dropZerosBehind 27 = .ok (.isub, 1) := by decide +kernel
theorem d_Ed_dropZerosBehind_28 : decode b_Ed_dropZerosBehind 28 = .ok (.putfield 20, 3) := by decide +kernel
theorem d_Ed_dropZerosBehind_31 : decode b_Ed_dropZerosBehind 31 = .ok (.goto (-31), 3) := by decide +kernel
theorem d_Ed_dropZerosBehind_34 : decode b_Ed_dropZerosBehind 34 = .ok (.aload_n 0, 1) := by decide +kernel
theorem d_Ed_dropZerosBehind_35 : decode b_Ed_dropZerosBehind 35 = .ok (.getfield 20, 3) := by decide +kernel
theorem d_Ed_dropZerosBehind_38 : decode b_Ed_dropZerosBehind 38 = .ok (.ifCond .ne 8, 3) := by decide +kernel
theorem d_Ed_dropZerosBehind_41 : decode b_Ed_dropZerosBehind 41 = .ok (.aload_n 0, 1) := by decide +kernel
theorem d_Ed_dropZerosBehind_42 : decode b_Ed_dropZerosBehind 42 = .ok (.iconst 0, 1) := by decide +kernel
theorem d_Ed_dropZerosBehind_43 : decode b_Ed_dropZerosBehind 43 = .ok (.putfield 24, 3) := by decide +kernel
theorem d_Ed_dropZerosBehind_46 : decode b_Ed_dropZerosBehind 46 = .ok (.return_, 1) := by decide +kernel
theorem d_Ed_digit_0 : decode b_Ed_digit 0 = .ok (.aload_n 0, 1) := by decide +kernel
theorem d_Ed_digit_1 : decode b_Ed_digit 1 = .ok (.getfield 24, 3) := by decide +kernel
theorem d_Ed_digit_4 : decode b_Ed_digit 4 = .ok (.i2l, 1) := by decide +kernel
theorem d_Ed_digit_5 : decode b_Ed_digit 5 = .ok (.iload_n 1, 1) := by decide +kernel
theorem d_Ed_digit_6 : decode b_Ed_digit 6 = .ok (.i2l, 1) := by decide +kernel
theorem d_Ed_digit_7 : decode b_Ed_digit 7 = .ok (.ladd, 1) := by decide +kernel
theorem d_Ed_digit_8 : decode b_Ed_digit 8 = .ok (.lstore_n 2, 1) := by decide +kernel
theorem d_Ed_digit_9 : decode b_Ed_digit 9 = .ok (.lload_n 2, 1) := by decide +kernel
theorem d_Ed_digit_10 : decode b_Ed_digit 10 = .ok (.lconst 0, 1) := by decide +kernel
theorem d_Ed_digit_11 : decode b_Ed_digit 11 = .ok (.lcmp, 1) := by decide +kernel
theorem d_Ed_digit_12 : decode b_Ed_digit 12 = .ok (.ifCond .lt 23, 3) := by decide +kernel
theorem d_Ed_digit_15 : decode b_Ed_digit 15 = .ok (.lload_n 2, 1) := by decide +kernel
theorem d_Ed_digit_16 : decode b_Ed_digit 16 = .ok (.aload_n 0, 1) := by decide +kernel
theorem d_Ed_digit_17 : decode b_Ed_digit 17 = .ok (.getfield 20, 3) := by decide +kernel
theorem d_Ed_digit_20 : decode b_Ed_digit 20 = .ok (.i2l, 1) := by decide +kernel
theorem d_Ed_digit_21 : decode b_Ed_digit 21 = .ok (.lcmp, 1) := by decide +kernel
theorem d_Ed_digit_22 : decode b_Ed_digit 22 = .ok (.ifCond .ge 13, 3) := by decide +kernel
theorem d_Ed_digit_25 : decode b_Ed_digit 25 = .ok (.aload_n 0, 1) := by decide +kernel
theorem d_Ed_digit_26 : decode b_Ed_digit 26 = .ok (.getfield 9, 3) := by decide +kernel
theorem d_Ed_digit_29 : decode b_Ed_digit 29 = .ok (.lload_n 2, 1) := by decide +kernel
theorem d_Ed_digit_30 : decode b_Ed_digit 30 = .ok (.l2i, 1) := by decide +kernel
theorem d_Ed_digit_31 : decode b_Ed_digit 31 = .ok (.baload, 1) := by decide +kernel
theorem d_Ed_digit_32 : decode b_Ed_digit 32 = .ok (.goto 4, 3) := by decide +kernel
theorem d_Ed_digit_35 : decode b_Ed_digit 35 = .ok (.iconst 0, 1) := by decide +kernel
theorem d_Ed_digit_36 : decode b_Ed_digit 36 = .ok (.ireturn, 1) := by decide +kernel
theorem d_Ed_nearest_0 : decode b_Ed_nearest 0 = .ok (.aload_n 0, 1) := by decide +kernel
theorem d_Ed_nearest_1 : decode b_Ed_nearest 1 = .ok (.getfield 16, 3) := by decide +kernel
theorem d_Ed_nearest_4 : decode b_Ed_nearest 4 = .ok (.aload_n 0, 1) := by decide +kernel
theorem d_Ed_nearest_5 : decode b_Ed_nearest 5 = .ok (.getfield 9, 3) := by decide +kernel
theorem d_Ed_nearest_8 : decode b_Ed_nearest 8 = .ok (.aload_n 0, 1) := by decide +kernel
theorem d_Ed_nearest_9 : decode b_Ed_nearest 9 = .ok (.getfield 20, 3) := by decide +kernel
theorem d_Ed_nearest_12 : decode b_Ed_nearest 12 = .ok (.invokevirtual 65, 3) := by decide +kernel
theorem d_Ed_nearest_15 : decode b_Ed_nearest 15 = .ok (.aload_n 0, 1) := by decide +kernel
theorem d_Ed_nearest_16 : decode b_Ed_nearest 16 = .ok (.aload_n 0, 1) := by decide +kernel
theorem d_Ed_nearest_17 : decode b_Ed_nearest 17 = .ok (.getfield 24, 3) := by decide +kernel
theorem d_Ed_nearest_20 : decode b_Ed_nearest 20 = .ok (.aload_n 0, 1) := by decide +kernel
theorem d_Ed_nearest_21 : decode b_Ed_nearest 21 = .ok (.getfield 20, 3) := by decide +kernel
theorem d_Ed_nearest_24 : decode b_Ed_nearest 24 = .ok (.isub, 1) := by decide +kernel
theorem d_Ed_nearest_25 : decode b_Ed_nearest 25 = .ok (.aload_n 0, 1) := by decide +kernel
theorem d_Ed_nearest_26 : decode b_Ed_nearest 26 = .ok (.getfield 27, 3) := by decide +kernel
theorem d_Ed_nearest_29 : decode b_Ed_nearest 29 = .ok (.iload_n 1, 1) := by decide +kernel
theorem d_Ed_nearest_30 : decode b_Ed_nearest 30 = .ok (.invokestatic 39, 3) := by decide +kernel
theorem d_Ed_nearest_33 : decode b_Ed_nearest 33 = .ok (.invokevirtual 79, 3) := by decide +kernel
theorem d_Ed_nearest_36 : decode b_Ed_nearest 36 = .ok (.lreturn, 1) := by decide +kernel
theorem d_Ed_formatOf_0 : decode b_Ed_formatOf 0 = .ok (.iload_n 0, 1) := by decide +kernel
theorem d_Ed_formatOf_1 : decode b_Ed_formatOf 1 = .ok (.ifCond .eq 9, 3) := by decide +kernel
theorem d_Ed_formatOf_4 : decode b_Ed_formatOf 4 = .ok (.getstatic 87, 3) := by decide +kernel
theorem d_Ed_formatOf_7 : decode b_Ed_formatOf 7 = .ok (.goto 6, 3) := by decide +kernel
theorem d_Ed_formatOf_10 : decode b_Ed_formatOf 10 = .ok (.getstatic 93, 3) := by decide +kernel
theorem d_Ed_formatOf_13 : decode b_Ed_formatOf 13 = .ok (.areturn, 1) := by decide +kernel
theorem d_Ed_nearestToScratch_0 : decode b_Ed_nearestToScratch 0 = .ok (.aload_n 0, 1) := by decide +kernel
theorem d_Ed_nearestToScratch_1 : decode b_Ed_nearestToScratch 1 = .ok (.getfield 16, 3) := by decide +kernel
theorem d_Ed_nearestToScratch_4 : decode b_Ed_nearestToScratch 4 = .ok (.invokevirtual 107, 3) := by decide +kernel
theorem d_Ed_nearestToScratch_7 : decode b_Ed_nearestToScratch 7 = .ok (.istore 4, 2) := by decide +kernel
theorem d_Ed_nearestToScratch_9 : decode b_Ed_nearestToScratch 9 = .ok (.iload 4, 2) := by decide +kernel
theorem d_Ed_nearestToScratch_11 : decode b_Ed_nearestToScratch 11 = .ok (.ifCond .eq 13, 3) := by decide +kernel
theorem d_Ed_nearestToScratch_14 : decode b_Ed_nearestToScratch 14 = .ok (.iload 4, 2) := by decide +kernel
theorem d_Ed_nearestToScratch_16 : decode b_Ed_nearestToScratch 16 = .ok (.iload_n 1, 1) := by decide +kernel
theorem d_Ed_nearestToScratch_17 : decode b_Ed_nearestToScratch 17 = .ok (.iadd, 1) := by decide +kernel
theorem d_Ed_nearestToScratch_18 : decode b_Ed_nearestToScratch 18 = .ok (.sipush (-330), 3) := by decide +kernel
theorem d_Ed_nearestToScratch_21 : decode b_Ed_nearestToScratch 21 = .ok (.if_icmp .ge 5, 3) := by decide +kernel
theorem d_Ed_nearestToScratch_24 : decode b_Ed_nearestToScratch 24 = .ok (.lconst 0, 1) := by decide +kernel
theorem d_Ed_nearestToScratch_25 : decode b_Ed_nearestToScratch 25 = .ok (.lreturn, 1) := by decide +kernel
theorem d_Ed_nearestToScratch_26 : decode b_Ed_nearestToScratch 26 = .ok (.iload 4, 2) := by decide +kernel
theorem d_Ed_nearestToScratch_28 : decode b_Ed_nearestToScratch 28 = .ok (.iload_n 1, 1) := by decide +kernel
theorem d_Ed_nearestToScratch_29 : decode b_Ed_nearestToScratch 29 = .ok (.iadd, 1) := by decide +kernel
theorem d_Ed_nearestToScratch_30 : decode b_Ed_nearestToScratch 30 = .ok (.sipush 310, 3) := by decide +kernel
theorem d_Ed_nearestToScratch_33 : decode b_Ed_nearestToScratch 33 = .ok (.if_icmp .le 8, 3) := by decide +kernel
theorem d_Ed_nearestToScratch_36 : decode b_Ed_nearestToScratch 36 = .ok (.aload_n 3, 1) := by decide +kernel
theorem d_Ed_nearestToScratch_37 : decode b_Ed_nearestToScratch 37 = .ok (.getfield 100, 3) := by decide +kernel
theorem d_Ed_nearestToScratch_40 : decode b_Ed_nearestToScratch 40 = .ok (.lreturn, 1) := by decide +kernel
theorem d_Ed_nearestToScratch_41 : decode b_Ed_nearestToScratch 41 = .ok (.bipush 60, 2) := by decide +kernel
theorem d_Ed_nearestToScratch_43 : decode b_Ed_nearestToScratch 43 = .ok (.iload 4, 2) := by decide +kernel
theorem d_Ed_nearestToScratch_45 : decode b_Ed_nearestToScratch 45 = .ok (.iload_n 1, 1) := by decide +kernel
theorem d_Ed_nearestToScratch_46 : decode b_Ed_nearestToScratch 46 = .ok (.iadd, 1) := by decide +kernel
theorem d_Ed_nearestToScratch_47 : decode b_Ed_nearestToScratch 47 = .ok (.invokestatic 154, 3) := by decide +kernel
theorem d_Ed_nearestToScratch_50 : decode b_Ed_nearestToScratch 50 = .ok (.isub, 1) := by decide +kernel
theorem d_Ed_nearestToScratch_51 : decode b_Ed_nearestToScratch 51 = .ok (.istore 5, 2) := by decide +kernel
theorem d_Ed_nearestToScratch_53 : decode b_Ed_nearestToScratch 53 = .ok (.iload_n 1, 1) := by decide +kernel
theorem d_Ed_nearestToScratch_54 : decode b_Ed_nearestToScratch 54 = .ok (.aload_n 0, 1) := by decide +kernel
theorem d_Ed_nearestToScratch_55 : decode b_Ed_nearestToScratch 55 = .ok (.getfield 16, 3) := by decide +kernel
theorem d_Ed_nearestToScratch_58 : decode b_Ed_nearestToScratch 58 = .ok (.iload 5, 2) := by decide +kernel
theorem d_Ed_nearestToScratch_60 : decode b_Ed_nearestToScratch 60 = .ok (.invokevirtual 69, 3) := by decide +kernel
theorem d_Ed_nearestToScratch_63 : decode b_Ed_nearestToScratch 63 = .ok (.iadd, 1) := by decide +kernel
theorem d_Ed_nearestToScratch_64 : decode b_Ed_nearestToScratch 64 = .ok (.istore 6, 2) := by decide +kernel
theorem d_Ed_nearestToScratch_66 : decode b_Ed_nearestToScratch 66 = .ok (.aload_n 0, 1) := by decide +kernel
theorem d_Ed_nearestToScratch_67 : decode b_Ed_nearestToScratch 67 = .ok (.getfield 16, 3) := by decide +kernel
theorem d_Ed_nearestToScratch_70 : decode b_Ed_nearestToScratch 70 = .ok (.aload_n 0, 1) := by decide +kernel
theorem d_Ed_nearestToScratch_71 : decode b_Ed_nearestToScratch 71 = .ok (.getfield 16, 3) := by decide +kernel
theorem d_Ed_nearestToScratch_74 : decode b_Ed_nearestToScratch 74 = .ok (.invokevirtual 107, 3) := by decide +kernel
theorem d_Ed_nearestToScratch_77 : decode b_Ed_nearestToScratch 77 = .ok (.iload 6, 2) := by decide +kernel
theorem d_Ed_nearestToScratch_79 : decode b_Ed_nearestToScratch 79 = .ok (.iadd, 1) := by decide +kernel
theorem d_Ed_nearestToScratch_80 : decode b_Ed_nearestToScratch 80 = .ok (.invokevirtual 157, 3) := by decide +kernel
theorem d_Ed_nearestToScratch_83 : decode b_Ed_nearestToScratch 83 = .ok (.lstore 7, 2) := by decide +kernel
theorem d_Ed_nearestToScratch_85 : decode b_Ed_nearestToScratch 85 = .ok (.aload_n 3, 1) := by decide +kernel
theorem d_Ed_nearestToScratch_86 : decode b_Ed_nearestToScratch 86 = .ok (.lload 7, 2) := by decide +kernel
theorem d_Ed_nearestToScratch_88 : decode b_Ed_nearestToScratch 88 = .ok (.iload_n 2, 1) := by decide +kernel
theorem d_Ed_nearestToScratch_89 : decode b_Ed_nearestToScratch 89 = .ok (.ifCond .ne 16, 3) := by decide +kernel
theorem d_Ed_nearestToScratch_92 : decode b_Ed_nearestToScratch 92 = .ok (.aload_n 0, 1) := by decide +kernel
theorem d_Ed_nearestToScratch_93 : decode b_Ed_nearestToScratch 93 = .ok (.getfield 16, 3) := by decide +kernel
theorem d_Ed_nearestToScratch_96 : decode b_Ed_nearestToScratch 96 = .ok (.iload 6, 2) := by decide +kernel
theorem d_Ed_nearestToScratch_98 : decode b_Ed_nearestToScratch 98 = .ok (.ineg, 1) := by decide +kernel
theorem d_Ed_nearestToScratch_99 : decode b_Ed_nearestToScratch 99 = .ok (.invokevirtual 158, 3) := by decide +kernel
theorem d_Ed_nearestToScratch_102 : decode b_Ed_nearestToScratch 102 = .ok (.ifCond .eq 7, 3) := by decide +kernel
theorem d_Ed_nearestToScratch_105 : decode b_Ed_nearestToScratch 105 = .ok (.iconst 1, 1) := by decide +kernel
theorem d_Ed_nearestToScratch_106 : decode b_Ed_nearestToScratch 106 = .ok (.goto 4, 3) := by decide +kernel
theorem d_Ed_nearestToScratch_109 : decode b_Ed_nearestToScratch 109 = .ok (.iconst 0, 1) := by decide +kernel
theorem d_Ed_nearestToScratch_110 : decode b_Ed_nearestToScratch 110 = .ok (.iload 5, 2) := by decide +kernel
theorem d_Ed_nearestToScratch_112 : decode b_Ed_nearestToScratch 112 = .ok (.ineg, 1) := by decide +kernel
theorem d_Ed_nearestToScratch_113 : decode b_Ed_nearestToScratch 113 = .ok (.invokevirtual 162, 3) := by decide +kernel
theorem d_Ed_nearestToScratch_116 : decode b_Ed_nearestToScratch 116 = .ok (.lreturn, 1) := by decide +kernel
theorem d_Ed_bitsOfTenTo_0 : decode b_Ed_bitsOfTenTo 0 = .ok (.iload_n 0, 1) := by decide +kernel
theorem d_Ed_bitsOfTenTo_1 : decode b_Ed_bitsOfTenTo 1 = .ok (.ldc 166, 2) := by decide +kernel
theorem d_Ed_bitsOfTenTo_3 : decode b_Ed_bitsOfTenTo 3 = .ok (.imul, 1) := by decide +kernel
theorem d_Ed_bitsOfTenTo_4 : decode b_Ed_bitsOfTenTo 4 = .ok (.bipush 16, 2) := by decide +kernel
theorem d_Ed_bitsOfTenTo_6 : decode b_Ed_bitsOfTenTo 6 = .ok (.ishr, 1) := by decide +kernel
theorem d_Ed_bitsOfTenTo_7 : decode b_Ed_bitsOfTenTo 7 = .ok (.ireturn, 1) := by decide +kernel
theorem d_Ed_digest_0 : decode b_Ed_digest 0 = .ok (.ldc2_w 83, 3) := by decide +kernel
theorem d_Ed_digest_3 : decode b_Ed_digest 3 = .ok (.lstore_n 1, 1) := by decide +kernel
theorem d_Ed_digest_4 : decode b_Ed_digest 4 = .ok (.iconst 0, 1) := by decide +kernel
theorem d_Ed_digest_5 : decode b_Ed_digest 5 = .ok (.istore_n 3, 1) := by decide +kernel
theorem d_Ed_digest_6 : decode b_Ed_digest 6 = .ok (.iload_n 3, 1) := by decide +kernel
theorem d_Ed_digest_7 : decode b_Ed_digest 7 = .ok (.aload_n 0, 1) := by decide +kernel
theorem d_Ed_digest_8 : decode b_Ed_digest 8 = .ok (.getfield 20, 3) := by decide +kernel
theorem d_Ed_digest_11 : decode b_Ed_digest 11 = .ok (.if_icmp .ge 23, 3) := by decide +kernel
theorem d_Ed_digest_14 : decode b_Ed_digest 14 = .ok (.lload_n 1, 1) := by decide +kernel
theorem d_Ed_digest_15 : decode b_Ed_digest 15 = .ok (.ldc2_w 85, 3) := by decide +kernel
theorem d_Ed_digest_18 : decode b_Ed_digest 18 = .ok (.lmul, 1) := by decide +kernel
theorem d_Ed_digest_19 : decode b_Ed_digest 19 = .ok (.aload_n 0, 1) := by decide +kernel
theorem d_Ed_digest_20 : decode b_Ed_digest 20 = .ok (.getfield 9, 3) := by decide +kernel
theorem d_Ed_digest_23 : decode b_Ed_digest 23 = .ok (.iload_n 3, 1) := by decide +kernel
theorem d_Ed_digest_24 : decode b_Ed_digest 24 = .ok (.baload, 1) := by decide +kernel
theorem d_Ed_digest_25 : decode b_Ed_digest 25 = .ok (.i2l, 1) := by decide +kernel
theorem d_Ed_digest_26 : decode b_Ed_digest 26 = .ok (.ladd, 1) := by decide +kernel
theorem d_Ed_digest_27 : decode b_Ed_digest 27 = .ok (.lstore_n 1, 1) := by decide +kernel
theorem d_Ed_digest_28 : decode b_Ed_digest 28 = .ok (.iinc 3 1, 3) := by decide +kernel
theorem d_Ed_digest_31 : decode b_Ed_digest 31 = .ok (.goto (-25), 3) := by decide +kernel
theorem d_Ed_digest_34 : decode b_Ed_digest 34 = .ok (.lload_n 1, 1) := by decide +kernel
theorem d_Ed_digest_35 : decode b_Ed_digest 35 = .ok (.ldc2_w 85, 3) := by decide +kernel
theorem d_Ed_digest_38 : decode b_Ed_digest 38 = .ok (.lmul, 1) := by decide +kernel
theorem d_Ed_digest_39 : decode b_Ed_digest 39 = .ok (.aload_n 0, 1) := by decide +kernel
theorem d_Ed_digest_40 : decode b_Ed_digest 40 = .ok (.getfield 24, 3) := by decide +kernel
theorem d_Ed_digest_43 : decode b_Ed_digest 43 = .ok (.i2l, 1) := by decide +kernel
theorem d_Ed_digest_44 : decode b_Ed_digest 44 = .ok (.ladd, 1) := by decide +kernel
theorem d_Ed_digest_45 : decode b_Ed_digest 45 = .ok (.lreturn, 1) := by decide +kernel
theorem d_Ed_real_0 : decode b_Ed_real 0 = .ok (.iload_n 3, 1) := by decide +kernel
theorem d_Ed_real_1 : decode b_Ed_real 1 = .ok (.invokestatic 39, 3) := by decide +kernel
theorem d_Ed_real_4 : decode b_Ed_real 4 = .ok (.astore 4, 2) := by decide +kernel
theorem d_Ed_real_6 : decode b_Ed_real 6 = .ok (.aload_n 0, 1) := by decide +kernel
theorem d_Ed_real_7 : decode b_Ed_real 7 = .ok (.lload_n 1, 1) := by decide +kernel
theorem d_Ed_real_8 : decode b_Ed_real 8 = .ok (.aload 4, 2) := by decide +kernel
theorem d_Ed_real_10 : decode b_Ed_real 10 = .ok (.invokestatic 43, 3) := by decide +kernel
theorem d_Ed_real_13 : decode b_Ed_real 13 = .ok (.aload 4, 2) := by decide +kernel
theorem d_Ed_real_15 : decode b_Ed_real 15 = .ok (.invokevirtual 47, 3) := by decide +kernel
theorem d_Ed_real_18 : decode b_Ed_real 18 = .ok (.aload_n 0, 1) := by decide +kernel
theorem d_Ed_real_19 : decode b_Ed_real 19 = .ok (.getfield 20, 3) := by decide +kernel
theorem d_Ed_real_22 : decode b_Ed_real 22 = .ok (.ireturn, 1) := by decide +kernel
theorem d_Ed_finiteSize_0 : decode b_Ed_finiteSize 0 = .ok (.aload_n 2, 1) := by decide +kernel
theorem d_Ed_finiteSize_1 : decode b_Ed_finiteSize 1 = .ok (.lload_n 0, 1) := by decide +kernel
theorem d_Ed_finiteSize_2 : decode b_Ed_finiteSize 2 = .ok (.invokevirtual 96, 3) := by decide +kernel
theorem d_Ed_finiteSize_5 : decode b_Ed_finiteSize 5 = .ok (.lstore_n 3, 1) := by decide +kernel
theorem d_Ed_finiteSize_6 : decode b_Ed_finiteSize 6 = .ok (.lload_n 3, 1) := by decide +kernel
theorem d_Ed_finiteSize_7 : decode b_Ed_finiteSize 7 = .ok (.aload_n 2, 1) := by decide +kernel
theorem d_Ed_finiteSize_8 : decode b_Ed_finiteSize 8 = .ok (.getfield 100, 3) := by decide +kernel
theorem d_Ed_finiteSize_11 : decode b_Ed_finiteSize 11 = .ok (.lcmp, 1) := by decide +kernel
theorem d_Ed_finiteSize_12 : decode b_Ed_finiteSize 12 = .ok (.ifCond .lt 11, 3) := by decide +kernel
theorem d_Ed_finiteSize_15 : decode b_Ed_finiteSize 15 = .ok (.new 104, 3) := by decide +kernel
theorem d_Ed_finiteSize_18 : decode b_Ed_finiteSize 18 = .ok (.dup, 1) := by decide +kernel
theorem d_Ed_finiteSize_19 : decode b_Ed_finiteSize 19 = .ok (.invokespecial 106, 3) := by decide +kernel
theorem d_Ed_finiteSize_22 : decode b_Ed_finiteSize 22 = .ok (.athrow, 1) := by decide +kernel
theorem d_Ed_finiteSize_23 : decode b_Ed_finiteSize 23 = .ok (.lload_n 3, 1) := by decide +kernel
theorem d_Ed_finiteSize_24 : decode b_Ed_finiteSize 24 = .ok (.lreturn, 1) := by decide +kernel
theorem d_Ed_giveExact_0 : decode b_Ed_giveExact 0 = .ok (.aload_n 0, 1) := by decide +kernel
theorem d_Ed_giveExact_1 : decode b_Ed_giveExact 1 = .ok (.getfield 16, 3) := by decide +kernel
theorem d_Ed_giveExact_4 : decode b_Ed_giveExact 4 = .ok (.aload_n 3, 1) := by decide +kernel
theorem d_Ed_giveExact_5 : decode b_Ed_giveExact 5 = .ok (.lload_n 1, 1) := by decide +kernel
theorem d_Ed_giveExact_6 : decode b_Ed_giveExact 6 = .ok (.invokevirtual 124, 3) := by decide +kernel
theorem d_Ed_giveExact_9 : decode b_Ed_giveExact 9 = .ok (.invokevirtual 31, 3) := by decide +kernel
theorem d_Ed_giveExact_12 : decode b_Ed_giveExact 12 = .ok (.aload_n 0, 1) := by decide +kernel
theorem d_Ed_giveExact_13 : decode b_Ed_giveExact 13 = .ok (.aload_n 0, 1) := by decide +kernel
theorem d_Ed_giveExact_14 : decode b_Ed_giveExact 14 = .ok (.getfield 16, 3) := by decide +kernel
theorem d_Ed_giveExact_17 : decode b_Ed_giveExact 17 = .ok (.aload_n 3, 1) := by decide +kernel
theorem d_Ed_giveExact_18 : decode b_Ed_giveExact 18 = .ok (.lload_n 1, 1) := by decide +kernel
theorem d_Ed_giveExact_19 : decode b_Ed_giveExact 19 = .ok (.invokevirtual 127, 3) := by decide +kernel
theorem d_Ed_giveExact_22 : decode b_Ed_giveExact 22 = .ok (.invokevirtual 69, 3) := by decide +kernel
theorem d_Ed_giveExact_25 : decode b_Ed_giveExact 25 = .ok (.invokevirtual 35, 3) := by decide +kernel
theorem d_Ed_giveExact_28 : decode b_Ed_giveExact 28 = .ok (.return_, 1) := by decide +kernel
theorem d_Ed_shortest_0 : decode b_Ed_shortest 0 = .ok (.iload_n 3, 1) := by decide +kernel
theorem d_Ed_shortest_1 : decode b_Ed_shortest 1 = .ok (.invokestatic 39, 3) := by decide +kernel
theorem d_Ed_shortest_4 : decode b_Ed_shortest 4 = .ok (.astore 4, 2) := by decide +kernel
theorem d_Ed_shortest_6 : decode b_Ed_shortest 6 = .ok (.lload_n 1, 1) := by decide +kernel
theorem d_Ed_shortest_7 : decode b_Ed_shortest 7 = .ok (.aload 4, 2) := by decide +kernel
theorem d_Ed_shortest_9 : decode b_Ed_shortest 9 = .ok (.invokestatic 43, 3) := by decide +kernel
theorem d_Ed_shortest_12 : decode b_Ed_shortest 12 = .ok (.lstore 5, 2) := by decide +kernel
theorem d_Ed_shortest_14 : decode b_Ed_shortest 14 = .ok (.aload_n 0, 1) := by decide +kernel
theorem d_Ed_shortest_15 : decode b_Ed_shortest 15 = .ok (.lload 5, 2) := by decide +kernel
theorem d_Ed_shortest_17 : decode b_Ed_shortest 17 = .ok (.aload 4, 2) := by decide +kernel
theorem d_Ed_shortest_19 : decode b_Ed_shortest 19 = .ok (.invokevirtual 47, 3) := by decide +kernel
theorem d_Ed_shortest_22 : decode b_Ed_shortest 22 = .ok (.aload_n 0, 1) := by decide +kernel
theorem d_Ed_shortest_23 : decode b_Ed_shortest 23 = .ok (.lload 5, 2) := by decide +kernel
theorem d_Ed_shortest_25 : decode b_Ed_shortest 25 = .ok (.aload 4, 2) := by decide +kernel
theorem d_Ed_shortest_27 : decode b_Ed_shortest 27 = .ok (.invokevirtual 51, 3) := by decide +kernel
theorem d_Ed_shortest_30 : decode b_Ed_shortest 30 = .ok (.aload_n 0, 1) := by decide +kernel
theorem d_Ed_shortest_31 : decode b_Ed_shortest 31 = .ok (.getfield 20, 3) := by decide +kernel
theorem d_Ed_shortest_34 : decode b_Ed_shortest 34 = .ok (.ireturn, 1) := by decide +kernel
theorem d_Ed_shorten_0 : decode b_Ed_shorten 0 = .ok (.iconst 2, 1) := by decide +kernel
theorem d_Ed_shorten_1 : decode b_Ed_shorten 1 = .ok (.istore 4, 2) := by decide +kernel
theorem d_Ed_shorten_3 : decode b_Ed_shorten 3 = .ok (.aload_n 0, 1) := by decide +kernel
theorem d_Ed_shorten_4 : decode b_Ed_shorten 4 = .ok (.getfield 20, 3) := by decide +kernel
theorem d_Ed_shorten_7 : decode b_Ed_shorten 7 = .ok (.bipush 17, 2) := by decide +kernel
theorem d_Ed_shorten_9 : decode b_Ed_shorten 9 = .ok (.invokestatic 115, 3) := by decide +kernel
theorem d_Ed_shorten_12 : decode b_Ed_shorten 12 = .ok (.istore 5, 2) := by decide +kernel
theorem d_Ed_shorten_14 : decode b_Ed_shorten 14 = .ok (.iload 4, 2) := by decide +kernel
theorem d_Ed_shorten_16 : decode b_Ed_shorten 16 = .ok (.iload 5, 2) := by decide +kernel
theorem d_Ed_shorten_18 : decode b_Ed_shorten 18 = .ok (.if_icmp .ge 43, 3) := by decide +kernel
theorem d_Ed_shorten_21 : decode b_Ed_shorten 21 = .ok (.iload 4, 2) := by decide +kernel
theorem d_Ed_shorten_23 : decode b_Ed_shorten 23 = .ok (.iload 5, 2) := by decide +kernel
theorem d_Ed_shorten_25 : decode b_Ed_shorten 25 = .ok (.iadd, 1) := by decide +kernel
theorem d_Ed_shorten_26 : decode b_Ed_shorten 26 = .ok (.iconst 2, 1) := by decide +kernel
theorem d_Ed_shorten_27 : decode b_Ed_shorten 27 = .ok (.idiv, 1) := by decide +kernel
theorem d_Ed_shorten_28 : decode b_Ed_shorten 28 = .ok (.istore 6, 2) := by decide +kernel
theorem d_Ed_shorten_30 : decode b_Ed_shorten 30 = .ok (.aload_n 0, 1) := by decide +kernel
theorem d_Ed_shorten_31 : decode b_Ed_shorten 31 = .ok (.iload 6, 2) := by decide +kernel
theorem d_Ed_shorten_33 : decode b_Ed_shorten 33 = .ok (.lload_n 1, 1) := by decide +kernel
theorem d_Ed_shorten_34 : decode b_Ed_shorten 34 = .ok (.aload_n 3, 1) := by decide +kernel
theorem d_Ed_shorten_35 : decode b_Ed_shorten 35 = .ok (.invokevirtual 134, 3) := by decide +kernel
theorem d_Ed_shorten_38 : decode b_Ed_shorten 38 = .ok (.ldc2_w 138, 3) := by decide +kernel
theorem d_Ed_shorten_41 : decode b_Ed_shorten 41 = .ok (.lcmp, 1) := by decide +kernel
theorem d_Ed_shorten_42 : decode b_Ed_shorten 42 = .ok (.ifCond .eq 10, 3) := by decide +kernel
theorem d_Ed_shorten_45 : decode b_Ed_shorten 45 = .ok (.iload 6, 2) := by decide +kernel
theorem d_Ed_shorten_47 : decode b_Ed_shorten 47 = .ok (.istore 5, 2) := by decide +kernel
theorem d_Ed_shorten_49 : decode b_Ed_shorten 49 = .ok (.goto 9, 3) := by decide +kernel
theorem d_Ed_shorten_52 : decode b_Ed_shorten 52 = .ok (.iload 6, 2) := by decide +kernel
theorem d_Ed_shorten_54 : decode b_Ed_shorten 54 = .ok (.iconst 1, 1) := by decide +kernel
theorem d_Ed_shorten_55 : decode b_Ed_shorten 55 = .ok (.iadd, 1) := by decide +kernel
theorem d_Ed_shorten_56 : decode b_Ed_shorten 56 = .ok (.istore 4, 2) := by decide +kernel
theorem d_Ed_shorten_58 : decode b_Ed_shorten 58 = .ok (.goto (-44), 3) := by decide +kernel
theorem d_Ed_shorten_61 : decode b_Ed_shorten 61 = .ok (.iload 5, 2) := by decide +kernel
theorem d_Ed_shorten_63 : decode b_Ed_shorten 63 = .ok (.aload_n 0, 1) := by decide +kernel
theorem d_Ed_shorten_64 : decode b_Ed_shorten 64 = .ok (.getfield 20, 3) := by decide +kernel
theorem d_Ed_shorten_67 : decode b_Ed_shorten 67 = .ok (.if_icmp .ge 14, 3) := by decide +kernel
theorem d_Ed_shorten_70 : decode b_Ed_shorten 70 = .ok (.aload_n 0, 1) := by decide +kernel
theorem d_Ed_shorten_71 : decode b_Ed_shorten 71 = .ok (.iload 5, 2) := by decide +kernel
theorem d_Ed_shorten_73 : decode b_Ed_shorten 73 = .ok (.lload_n 1, 1) := by decide +kernel
theorem d_Ed_shorten_74 : decode b_Ed_shorten 74 = .ok (.aload_n 3, 1) := by decide +kernel
theorem d_Ed_shorten_75 : decode b_Ed_shorten 75 = .ok (.invokevirtual 134, 3) := by decide +kernel
theorem d_Ed_shorten_78 : decode b_Ed_shorten 78 = .ok (.goto 6, 3) := by decide +kernel
theorem d_Ed_shorten_81 : decode b_Ed_shorten 81 = .ok (.ldc2_w 138, 3) := by decide +kernel
theorem d_Ed_shorten_84 : decode b_Ed_shorten 84 = .ok (.lstore 6, 2) := by decide +kernel
theorem d_Ed_shorten_86 : decode b_Ed_shorten 86 = .ok (.lload 6, 2) := by decide +kernel
theorem d_Ed_shorten_88 : decode b_Ed_shorten 88 = .ok (.ldc2_w 138, 3) := by decide +kernel
theorem d_Ed_shorten_91 : decode b_Ed_shorten 91 = .ok (.lcmp, 1) := by decide +kernel
theorem d_Ed_shorten_92 : decode b_Ed_shorten 92 = .ok (.ifCond .eq 23, 3) := by decide +kernel
theorem d_Ed_shorten_95 : decode b_Ed_shorten 95 = .ok (.aload_n 0, 1) := by decide +kernel
theorem d_Ed_shorten_96 : decode b_Ed_shorten 96 = .ok (.getfield 16, 3) := by decide +kernel
theorem d_Ed_shorten_99 : decode b_Ed_shorten 99 = .ok (.lload 6, 2) := by decide +kernel
theorem d_Ed_shorten_101 : decode b_Ed_shorten 101 = .ok (.invokevirtual 31, 3) := by decide +kernel
theorem d_Ed_shorten_104 : decode b_Ed_shorten 104 = .ok (.aload_n 0, 1) := by decide +kernel
theorem d_Ed_shorten_105 : decode b_Ed_shorten 105 = .ok (.aload_n 0, 1) := by decide +kernel
theorem d_Ed_shorten_106 : decode b_Ed_shorten 106 = .ok (.getfield 24, 3) := by decide +kernel
theorem d_Ed_shorten_109 : decode b_Ed_shorten 109 = .ok (.iload 5, 2) := by decide +kernel
theorem d_Ed_shorten_111 : decode b_Ed_shorten 111 = .ok (.isub, 1) := by decide +kernel
theorem d_Ed_shorten_112 : decode b_Ed_shorten 112 = .ok (.invokevirtual 35, 3) := by decide +kernel
theorem d_Ed_shorten_115 : decode b_Ed_shorten 115 = .ok (.return_, 1) := by decide +kernel
theorem d_Ed_neighbourReadBack_0 : decode b_Ed_neighbourReadBack 0 = .ok (.aload_n 0, 1) := by decide +kernel
theorem d_Ed_neighbourReadBack_1 : decode b_Ed_neighbourReadBack 1 = .ok (.iload_n 1, 1) := by decide +kernel
theorem d_Ed_neighbourReadBack_2 : decode b_Ed_neighbourReadBack 2 = .ok (.invokevirtual 140, 3) := by decide +kernel
theorem d_Ed_neighbourReadBack_5 : decode b_Ed_neighbourReadBack 5 = .ok (.lstore 5, 2) := by decide +kernel
theorem d_Ed_neighbourReadBack_7 : decode b_Ed_neighbourReadBack 7 = .ok (.aload_n 0, 1) := by decide +kernel
theorem d_Ed_neighbourReadBack_8 : decode b_Ed_neighbourReadBack 8 = .ok (.iload_n 1, 1) := by decide +kernel
theorem d_Ed_neighbourReadBack_9 : decode b_Ed_neighbourReadBack 9 = .ok (.lload 5, 2) := by decide +kernel
theorem d_Ed_neighbourReadBack_11 : decode b_Ed_neighbourReadBack 11 = .ok (.invokevirtual 144, 3) := by decide +kernel
theorem d_Ed_neighbourReadBack_14 : decode b_Ed_neighbourReadBack 14 = .ok (.ifCond .eq 10, 3) := by decide +kernel
theorem d_Ed_neighbourReadBack_17 : decode b_Ed_neighbourReadBack 17 = .ok (.lload 5, 2) := by decide +kernel
theorem d_Ed_neighbourReadBack_19 : decode b_Ed_neighbourReadBack 19 = .ok (.lconst 1, 1) := by decide +kernel
theorem d_Ed_neighbourReadBack_20 : decode b_Ed_neighbourReadBack 20 = .ok (.ladd, 1) := by decide +kernel
theorem d_Ed_neighbourReadBack_21 : decode b_Ed_neighbourReadBack 21 = .ok (.goto 5, 3) := by decide +kernel
theorem d_Ed_neighbourReadBack_24 : decode b_Ed_neighbourReadBack 24 = .ok (.lload 5, 2) := by decide +kernel
theorem d_Ed_neighbourReadBack_26 : decode b_Ed_neighbourReadBack 26 = .ok (.lstore 7, 2) := by decide +kernel
theorem d_Ed_neighbourReadBack_28 : decode b_Ed_neighbourReadBack 28 = .ok (.lload 7, 2) := by decide +kernel
theorem d_Ed_neighbourReadBack_30 : decode b_Ed_neighbourReadBack 30 = .ok (.lload 5, 2) := by decide +kernel
theorem d_Ed_neighbourReadBack_32 : decode b_Ed_neighbourReadBack 32 = .ok (.lcmp, 1) := by decide +kernel
theorem d_Ed_neighbourReadBack_33 : decode b_Ed_neighbourReadBack 33 = .ok (.ifCond .ne 10, 3) := by decide +kernel
theorem d_Ed_neighbourReadBack_36 : decode b_Ed_neighbourReadBack 36 = .ok (.lload 5, 2) := by decide +kernel
theorem d_Ed_neighbourReadBack_38 : decode b_Ed_neighbourReadBack 38 = .ok (.lconst 1, 1) := by decide +kernel
theorem d_Ed_neighbourReadBack_39 : decode b_Ed_neighbourReadBack 39 = .ok (.ladd, 1) := by decide +kernel
theorem d_Ed_neighbourReadBack_40 : decode b_Ed_neighbourReadBack 40 = .ok (.goto 5, 3) := by decide +kernel
theorem d_Ed_neighbourReadBack_43 : decode b_Ed_neighbourReadBack 43 = .ok (.lload 5, 2) := by decide +kernel
theorem d_Ed_neighbourReadBack_45 : decode b_Ed_neighbourReadBack 45 = .ok (.lstore 9, 2) := by decide +kernel
theorem d_Ed_neighbourReadBack_47 : decode b_Ed_neighbourReadBack 47 = .ok (.aload_n 0, 1) := by decide +kernel
theorem d_Ed_neighbourReadBack_48 : decode b_Ed_neighbourReadBack 48 = .ok (.lload 7, 2) := by decide +kernel
theorem d_Ed_neighbourReadBack_50 : decode b_Ed_neighbourReadBack 50 = .ok (.aload_n 0, 1) := by decide +kernel
theorem d_Ed_neighbourReadBack_51 : decode b_Ed_neighbourReadBack 51 = .ok (.getfield 24, 3) := by decide +kernel
theorem d_Ed_neighbourReadBack_54 : decode b_Ed_neighbourReadBack 54 = .ok (.iload_n 1, 1) := by decide +kernel
theorem d_Ed_neighbourReadBack_55 : decode b_Ed_neighbourReadBack 55 = .ok (.isub, 1) := by decide +kernel
theorem d_Ed_neighbourReadBack_56 : decode b_Ed_neighbourReadBack 56 = .ok (.lload_n 2, 1) := by decide +kernel
theorem d_Ed_neighbourReadBack_57 : decode b_Ed_neighbourReadBack 57 = .ok (.aload 4, 2) := by decide +kernel
theorem d_Ed_neighbourReadBack_59 : decode b_Ed_neighbourReadBack 59 = .ok (.invokevirtual 148, 3) := by decide +kernel
theorem d_Ed_neighbourReadBack_62 : decode b_Ed_neighbourReadBack 62 = .ok (.ifCond .eq 6, 3) := by decide +kernel
theorem d_Ed_neighbourReadBack_65 : decode b_Ed_neighbourReadBack 65 = .ok (.lload 7, 2) := by decide +kernel
theorem d_Ed_neighbourReadBack_67 : decode b_Ed_neighbourReadBack 67 = .ok (.lreturn, 1) := by decide +kernel
theorem d_Ed_neighbourReadBack_68 : decode b_Ed_neighbourReadBack 68 = .ok (.aload_n 0, 1) := by decide +kernel
theorem d_Ed_neighbourReadBack_69 : decode b_Ed_neighbourReadBack 69 = .ok (.lload 9, 2) := by decide +kernel
theorem d_Ed_neighbourReadBack_71 : decode b_Ed_neighbourReadBack 71 = .ok (.aload_n 0, 1) := by decide +kernel
theorem d_Ed_neighbourReadBack_72 : decode b_Ed_neighbourReadBack 72 = .ok (.getfield 24, 3) := by decide +kernel
theorem d_Ed_neighbourReadBack_75 : decode b_Ed_neighbourReadBack 75 = .ok (.iload_n 1, 1) := by decide +kernel
theorem d_Ed_neighbourReadBack_76 : decode b_Ed_neighbourReadBack 76 = .ok (.isub, 1) := by decide +kernel
theorem d_Ed_neighbourReadBack_77 : decode b_Ed_neighbourReadBack 77 = .ok (.lload_n 2, 1) := by decide +kernel
theorem d_Ed_neighbourReadBack_78 : decode b_Ed_neighbourReadBack 78 = .ok (.aload 4, 2) := by decide +kernel
theorem d_Ed_neighbourReadBack_80 : decode b_Ed_neighbourReadBack 80 = .ok (.invokevirtual 148, 3) := by decide +kernel
theorem d_Ed_neighbourReadBack_83 : decode b_Ed_neighbourReadBack 83 = .ok (.ifCond .eq 8, 3) := by decide +kernel
theorem d_Ed_neighbourReadBack_86 : decode b_Ed_neighbourReadBack 86 = .ok (.lload 9, 2) := by decide +kernel
theorem d_Ed_neighbourReadBack_88 : decode b_Ed_neighbourReadBack 88 = .ok (.goto 6, 3) := by decide +kernel
theorem d_Ed_neighbourReadBack_91 : decode b_Ed_neighbourReadBack 91 = .ok (.ldc2_w 138, 3) := by decide +kernel
theorem d_Ed_neighbourReadBack_94 : decode b_Ed_neighbourReadBack 94 = .ok (.lreturn, 1) := by decide +kernel
theorem d_Ed_firstDigits_0 : decode b_Ed_firstDigits 0 = .ok (.lconst 0, 1) := by decide +kernel
theorem d_Ed_firstDigits_1 : decode b_Ed_firstDigits 1 = .ok (.lstore_n 2, 1) := by decide +kernel
theorem d_Ed_firstDigits_2 : decode b_Ed_firstDigits 2 = .ok (.iconst 0, 1) := by decide +kernel
theorem d_Ed_firstDigits_3 : decode b_Ed_firstDigits 3 = .ok (.istore 4, 2) := by decide +kernel
theorem d_Ed_firstDigits_5 : decode b_Ed_firstDigits 5 = .ok (.iload 4, 2) := by decide +kernel
theorem d_Ed_firstDigits_7 : decode b_Ed_firstDigits 7 = .ok (.iload_n 1, 1) := by decide +kernel
theorem d_Ed_firstDigits_8 : decode b_Ed_firstDigits 8 = .ok (.if_icmp .ge 33, 3) := by decide +kernel
theorem d_Ed_firstDigits_11 : decode b_Ed_firstDigits 11 = .ok (.iload 4, 2) := by decide +kernel
theorem d_Ed_firstDigits_13 : decode b_Ed_firstDigits 13 = .ok (.aload_n 0, 1) := by decide +kernel
theorem d_Ed_firstDigits_14 : decode b_Ed_firstDigits 14 = .ok (.getfield 20, 3) := by decide +kernel
theorem d_Ed_firstDigits_17 : decode b_Ed_firstDigits 17 = .ok (.if_icmp .ge 24, 3) := by decide +kernel
theorem d_Ed_firstDigits_20 : decode b_Ed_firstDigits 20 = .ok (.lload_n 2, 1) := by decide +kernel
theorem d_Ed_firstDigits_21 : decode b_Ed_firstDigits 21 = .ok (.ldc2_w 152, 3) := by decide +kernel
theorem d_Ed_firstDigits_24 : decode b_Ed_firstDigits 24 = .ok (.lmul, 1) := by decide +kernel
theorem d_Ed_firstDigits_25 : decode b_Ed_firstDigits 25 = .ok (.aload_n 0, 1) := by decide +kernel
theorem d_Ed_firstDigits_26 : decode b_Ed_firstDigits 26 = .ok (.getfield 9, 3) := by decide +kernel
theorem d_Ed_firstDigits_29 : decode b_Ed_firstDigits 29 = .ok (.iload 4, 2) := by decide +kernel
theorem d_Ed_firstDigits_31 : decode b_Ed_firstDigits 31 = .ok (.baload, 1) := by decide +kernel
theorem d_Ed_firstDigits_32 : decode b_Ed_firstDigits 32 = .ok (.i2l, 1) := by decide +kernel
theorem d_Ed_firstDigits_33 : decode b_Ed_firstDigits 33 = .ok (.ladd, 1) := by decide +kernel
theorem d_Ed_firstDigits_34 : decode b_Ed_firstDigits 34 = .ok (.lstore_n 2, 1) := by decide +kernel
theorem d_Ed_firstDigits_35 : decode b_Ed_firstDigits 35 = .ok (.iinc 4 1, 3) := by decide +kernel
theorem d_Ed_firstDigits_38 : decode b_Ed_firstDigits 38 = .ok (.goto (-33), 3) := by decide +kernel
theorem d_Ed_firstDigits_41 : decode b_Ed_firstDigits 41 = .ok (.lload_n 2, 1) := by decide +kernel
theorem d_Ed_firstDigits_42 : decode b_Ed_firstDigits 42 = .ok (.lreturn, 1) := by decide +kernel
theorem d_Ed_isNearerAbove_0 : decode b_Ed_isNearerAbove 0 = .ok (.iload_n 1, 1) := by decide +kernel
theorem d_Ed_isNearerAbove_1 : decode b_Ed_isNearerAbove 1 = .ok (.aload_n 0, 1) := by decide +kernel
theorem d_Ed_isNearerAbove_2 : decode b_Ed_isNearerAbove 2 = .ok (.getfield 20, 3) := by decide +kernel
theorem d_Ed_isNearerAbove_5 : decode b_Ed_isNearerAbove 5 = .ok (.if_icmp .lt 5, 3) := by decide +kernel
theorem d_Ed_isNearerAbove_8 : decode b_Ed_isNearerAbove 8 = .ok (.iconst 0, 1) := by decide +kernel
theorem d_Ed_isNearerAbove_9 : decode b_Ed_isNearerAbove 9 = .ok (.ireturn, 1) := by decide +kernel
theorem d_Ed_isNearerAbove_10 : decode b_Ed_isNearerAbove 10 = .ok (.aload_n 0, 1) := by decide +kernel
theorem d_Ed_isNearerAbove_11 : decode b_Ed_isNearerAbove 11 = .ok (.getfield 9, 3) := by decide +kernel
theorem d_Ed_isNearerAbove_14 : decode b_Ed_isNearerAbove 14 = .ok (.iload_n 1, 1) := by decide +kernel
theorem d_Ed_isNearerAbove_15 : decode b_Ed_isNearerAbove 15 = .ok (.baload, 1) := by decide +kernel
theorem d_Ed_isNearerAbove_16 : decode b_Ed_isNearerAbove 16 = .ok (.iconst 5, 1) := by decide +kernel
theorem d_Ed_isNearerAbove_17 : decode b_Ed_isNearerAbove 17 = .ok (.if_icmp .eq 19, 3) := by decide +kernel
theorem d_Ed_isNearerAbove_20 : decode b_Ed_isNearerAbove 20 = .ok (.aload_n 0, 1) := by decide +kernel
theorem d_Ed_isNearerAbove_21 : decode b_Ed_isNearerAbove 21 = .ok (.getfield 9, 3) := by decide +kernel
theorem d_Ed_isNearerAbove_24 : decode b_Ed_isNearerAbove 24 = .ok (.iload_n 1, 1) := by decide +kernel
theorem d_Ed_isNearerAbove_25 : decode b_Ed_isNearerAbove 25 = .ok (.baload, 1) := by decide +kernel
theorem d_Ed_isNearerAbove_26 : decode b_Ed_isNearerAbove 26 = .ok (.iconst 5, 1) := by decide +kernel
theorem d_Ed_isNearerAbove_27 : decode b_Ed_isNearerAbove 27 = .ok (.if_icmp .le 7, 3) := by decide +kernel
theorem d_Ed_isNearerAbove_30 : decode b_Ed_isNearerAbove 30 = .ok (.iconst 1, 1) := by decide +kernel
theorem d_Ed_isNearerAbove_31 : decode b_Ed_isNearerAbove 31 = .ok (.goto 4, 3) := by decide +kernel
theorem d_Ed_isNearerAbove_34 : decode b_Ed_isNearerAbove 34 = .ok (.iconst 0, 1) := by decide +kernel
theorem d_Ed_isNearerAbove_35 : decode b_Ed_isNearerAbove 35 = .ok (.ireturn, 1) := by decide +kernel
theorem d_Ed_isNearerAbove_36 : decode b_Ed_isNearerAbove 36 = .ok (.aload_n 0, 1) := by decide +kernel
theorem d_Ed_isNearerAbove_37 : decode b_Ed_isNearerAbove 37 = .ok (.getfield 20, 3) := by decide +kernel
theorem d_Ed_isNearerAbove_40 : decode b_Ed_isNearerAbove 40 = .ok (.iload_n 1, 1) := by decide +kernel
theorem d_Ed_isNearerAbove_41 : decode b_Ed_isNearerAbove 41 = .ok (.iconst 1, 1) := by decide +kernel
theorem d_Ed_isNearerAbove_42 : decode b_Ed_isNearerAbove 42 = .ok (.iadd, 1) := by decide +kernel
theorem d_Ed_isNearerAbove_43 : decode b_Ed_isNearerAbove 43 = .ok (.if_icmp .gt 11, 3) := by decide +kernel
theorem d_Ed_isNearerAbove_46 : decode b_Ed_isNearerAbove 46 = .ok (.lload_n 2, 1) := by decide +kernel
theorem d_Ed_isNearerAbove_47 : decode b_Ed_isNearerAbove 47 = .ok (.lconst 1, 1) := by decide +kernel
theorem d_Ed_isNearerAbove_48 : decode b_Ed_isNearerAbove 48 = .ok (.land, 1) := by decide +kernel
theorem d_Ed_isNearerAbove_49 : decode b_Ed_isNearerAbove 49 = .ok (.lconst 0, 1) := by decide +kernel
theorem d_Ed_isNearerAbove_50 : decode b_Ed_isNearerAbove 50 = .ok (.lcmp, 1) := by decide +kernel
theorem d_Ed_isNearerAbove_51 : decode b_Ed_isNearerAbove 51 = .ok (.ifCond .eq 7, 3) := by decide +kernel
theorem d_Ed_isNearerAbove_54 : decode b_Ed_isNearerAbove 54 = .ok (.iconst 1, 1) := by decide +kernel
theorem d_Ed_isNearerAbove_55 : decode b_Ed_isNearerAbove 55 = .ok (.goto 4, 3) := by decide +kernel
theorem d_Ed_isNearerAbove_58 : decode b_Ed_isNearerAbove 58 = .ok (.iconst 0, 1) := by decide +kernel
theorem d_Ed_isNearerAbove_59 : decode b_Ed_isNearerAbove 59 = .ok (.ireturn, 1) := by decide +kernel
theorem d_Ed_readsBack_0 : decode b_Ed_readsBack 0 = .ok (.aload_n 0, 1) := by decide +kernel
theorem d_Ed_readsBack_1 : decode b_Ed_readsBack 1 = .ok (.getfield 16, 3) := by decide +kernel
theorem d_Ed_readsBack_4 : decode b_Ed_readsBack 4 = .ok (.lload_n 1, 1) := by decide +kernel
theorem d_Ed_readsBack_5 : decode b_Ed_readsBack 5 = .ok (.invokevirtual 31, 3) := by decide +kernel
theorem d_Ed_readsBack_8 : decode b_Ed_readsBack 8 = .ok (.aload_n 0, 1) := by decide +kernel
theorem d_Ed_readsBack_9 : decode b_Ed_readsBack 9 = .ok (.iload_n 3, 1) := by decide +kernel
theorem d_Ed_readsBack_10 : decode b_Ed_readsBack 10 = .ok (.iconst 0, 1) := by decide +kernel
theorem d_Ed_readsBack_11 : decode b_Ed_readsBack 11 = .ok (.aload 6, 2) := by decide +kernel
theorem d_Ed_readsBack_13 : decode b_Ed_readsBack 13 = .ok (.invokevirtual 79, 3) := by decide +kernel
theorem d_Ed_readsBack_16 : decode b_Ed_readsBack 16 = .ok (.lload 4, 2) := by decide +kernel
theorem d_Ed_readsBack_18 : decode b_Ed_readsBack 18 = .ok (.lcmp, 1) := by decide +kernel
theorem d_Ed_readsBack_19 : decode b_Ed_readsBack 19 = .ok (.ifCond .ne 7, 3) := by decide +kernel
theorem d_Ed_readsBack_22 : decode b_Ed_readsBack 22 = .ok (.iconst 1, 1) := by decide +kernel
theorem d_Ed_readsBack_23 : decode b_Ed_readsBack 23 = .ok (.goto 4, 3) := by decide +kernel
theorem d_Ed_readsBack_26 : decode b_Ed_readsBack 26 = .ok (.iconst 0, 1) := by decide +kernel
theorem d_Ed_readsBack_27 : decode b_Ed_readsBack 27 = .ok (.ireturn, 1) := by decide +kernel
theorem d_Ed_put_0 : decode b_Ed_put 0 = .ok (.iload_n 2, 1) := by decide +kernel
theorem d_Ed_put_1 : decode b_Ed_put 1 = .ok (.ifCond .lt 26, 3) := by decide +kernel
theorem d_Ed_put_4 : decode b_Ed_put 4 = .ok (.iload_n 2, 1) := by decide +kernel
theorem d_Ed_put_5 : decode b_Ed_put 5 = .ok (.bipush 9, 2) := by decide +kernel
theorem d_Ed_put_7 : decode b_Ed_put 7 = .ok (.if_icmp .gt 20, 3) := by decide +kernel
theorem d_Ed_put_10 : decode b_Ed_put 10 = .ok (.iload_n 1, 1) := by decide +kernel
theorem d_Ed_put_11 : decode b_Ed_put 11 = .ok (.sipush 400, 3) := by decide +kernel
theorem d_Ed_put_14 : decode b_Ed_put 14 = .ok (.invokestatic 54, 3) := by decide +kernel
theorem d_Ed_put_17 : decode b_Ed_put 17 = .ok (.ifCond .ne 10, 3) := by decide +kernel
theorem d_Ed_put_20 : decode b_Ed_put 20 = .ok (.aload_n 0, 1) := by decide +kernel
theorem d_Ed_put_21 : decode b_Ed_put 21 = .ok (.getfield 27, 3) := by decide +kernel
theorem d_Ed_put_24 : decode b_Ed_put 24 = .ok (.ifCond .eq 11, 3) := by decide +kernel
theorem d_Ed_put_27 : decode b_Ed_put 27 = .ok (.new 58, 3) := by decide +kernel
theorem d_Ed_put_30 : decode b_Ed_put 30 = .ok (.dup, 1) := by decide +kernel
theorem d_Ed_put_31 : decode b_Ed_put 31 = .ok (.invokespecial 60, 3) := by decide +kernel
theorem d_Ed_put_34 : decode b_Ed_put 34 = .ok (.athrow, 1) := by decide +kernel
theorem d_Ed_put_35 : decode b_Ed_put 35 = .ok (.aload_n 0, 1) := by decide +kernel
theorem d_Ed_put_36 : decode b_Ed_put 36 = .ok (.getfield 20, 3) := by decide +kernel
theorem d_Ed_put_39 : decode b_Ed_put 39 = .ok (.ifCond .ne 7, 3) := by decide +kernel
theorem d_Ed_put_42 : decode b_Ed_put 42 = .ok (.iconst 0, 1) := by decide +kernel
theorem d_Ed_put_43 : decode b_Ed_put 43 = .ok (.goto 9, 3) := by decide +kernel
theorem d_Ed_put_46 : decode b_Ed_put 46 = .ok (.aload_n 0, 1) := by decide +kernel
theorem d_Ed_put_47 : decode b_Ed_put 47 = .ok (.getfield 24, 3) := by decide +kernel
theorem d_Ed_put_50 : decode b_Ed_put 50 = .ok (.iload_n 1, 1) := by decide +kernel
theorem d_Ed_put_51 : decode b_Ed_put 51 = .ok (.iadd, 1) := by decide +kernel
theorem d_Ed_put_52 : decode b_Ed_put 52 = .ok (.istore_n 3, 1) := by decide +kernel
theorem d_Ed_put_53 : decode b_Ed_put 53 = .ok (.iload_n 3, 1) := by decide +kernel
theorem d_Ed_put_54 : decode b_Ed_put 54 = .ok (.aload_n 0, 1) := by decide +kernel
theorem d_Ed_put_55 : decode b_Ed_put 55 = .ok (.getfield 20, 3) := by decide +kernel
theorem d_Ed_put_58 : decode b_Ed_put 58 = .ok (.if_icmp .lt 10, 3) := by decide +kernel
theorem d_Ed_put_61 : decode b_Ed_put 61 = .ok (.iload_n 3, 1) := by decide +kernel
theorem d_Ed_put_62 : decode b_Ed_put 62 = .ok (.sipush 1200, 3) := by decide +kernel
theorem d_Ed_put_65 : decode b_Ed_put 65 = .ok (.if_icmp .lt 11, 3) := by decide +kernel
theorem d_Ed_put_68 : decode b_Ed_put 68 = .ok (.new 58, 3) := by decide +kernel
theorem d_Ed_put_71 : decode b_Ed_put 71 = .ok (.dup, 1) := by decide +kernel
theorem d_Ed_put_72 : decode b_Ed_put 72 = .ok (.invokespecial 60, 3) := by decide +kernel
theorem d_Ed_put_75 : decode b_Ed_put 75 = .ok (.athrow, 1) := by decide +kernel
theorem d_Ed_put_76 : decode b_Ed_put 76 = .ok (.iload_n 2, 1) := by decide +kernel
theorem d_Ed_put_77 : decode b_Ed_put 77 = .ok (.ifCond .eq 10, 3) := by decide +kernel
theorem d_Ed_put_80 : decode b_Ed_put 80 = .ok (.aload_n 0, 1) := by decide +kernel
theorem d_Ed_put_81 : decode b_Ed_put 81 = .ok (.iload_n 3, 1) := by decide +kernel
theorem d_Ed_put_82 : decode b_Ed_put 82 = .ok (.iload_n 1, 1) := by decide +kernel
theorem d_Ed_put_83 : decode b_Ed_put 83 = .ok (.iload_n 2, 1) := by decide +kernel
theorem d_Ed_put_84 : decode b_Ed_put 84 = .ok (.invokevirtual 61, 3) := by decide +kernel
theorem d_Ed_put_87 : decode b_Ed_put 87 = .ok (.aload_n 0, 1) := by decide +kernel
theorem d_Ed_put_88 : decode b_Ed_put 88 = .ok (.getfield 20, 3) := by decide +kernel
theorem d_Ed_put_91 : decode b_Ed_put 91 = .ok (.ireturn, 1) := by decide +kernel
theorem d_Ed_isBeyond_0 : decode b_Ed_isBeyond 0 = .ok (.iload_n 0, 1) := by decide +kernel
theorem d_Ed_isBeyond_1 : decode b_Ed_isBeyond 1 = .ok (.iload_n 1, 1) := by decide +kernel
theorem d_Ed_isBeyond_2 : decode b_Ed_isBeyond 2 = .ok (.ineg, 1) := by decide +kernel
theorem d_Ed_isBeyond_3 : decode b_Ed_isBeyond 3 = .ok (.if_icmp .lt 8, 3) := by decide +kernel
theorem d_Ed_isBeyond_6 : decode b_Ed_isBeyond 6 = .ok (.iload_n 0, 1) := by decide +kernel
theorem d_Ed_isBeyond_7 : decode b_Ed_isBeyond 7 = .ok (.iload_n 1, 1) := by decide +kernel
theorem d_Ed_isBeyond_8 : decode b_Ed_isBeyond 8 = .ok (.if_icmp .le 7, 3) := by decide +kernel
theorem d_Ed_isBeyond_11 : decode b_Ed_isBeyond 11 = .ok (.iconst 1, 1) := by decide +kernel
theorem d_Ed_isBeyond_12 : decode b_Ed_isBeyond 12 = .ok (.goto 4, 3) := by decide +kernel
theorem d_Ed_isBeyond_15 : decode b_Ed_isBeyond 15 = .ok (.iconst 0, 1) := by decide +kernel
theorem d_Ed_isBeyond_16 : decode b_Ed_isBeyond 16 = .ok (.ireturn, 1) := by decide +kernel
theorem d_Ed_append_0 : decode b_Ed_append 0 = .ok (.aload_n 0, 1) := by decide +kernel
theorem d_Ed_append_1 : decode b_Ed_append 1 = .ok (.getfield 20, 3) := by decide +kernel
theorem d_Ed_append_4 : decode b_Ed_append 4 = .ok (.ifCond .ne 9, 3) := by decide +kernel
theorem d_Ed_append_7 : decode b_Ed_append 7 = .ok (.aload_n 0, 1) := by decide +kernel
theorem d_Ed_append_8 : decode b_Ed_append 8 = .ok (.iload_n 2, 1) := by decide +kernel
theorem d_Ed_append_9 : decode b_Ed_append 9 = .ok (.ineg, 1) := by decide +kernel
theorem d_Ed_append_10 : decode b_Ed_append 10 = .ok (.putfield 24, 3) := by decide +kernel
theorem d_Ed_append_13 : decode b_Ed_append 13 = .ok (.aload_n 0, 1) := by decide +kernel
theorem d_Ed_append_14 : decode b_Ed_append 14 = .ok (.getfield 20, 3) := by decide +kernel
theorem d_Ed_append_17 : decode b_Ed_append 17 = .ok (.istore 4, 2) := by decide +kernel
theorem d_Ed_append_19 : decode b_Ed_append 19 = .ok (.iload 4, 2) := by decide +kernel
theorem d_Ed_append_21 : decode b_Ed_append 21 = .ok (.iload_n 1, 1) := by decide +kernel
theorem d_Ed_append_22 : decode b_Ed_append 22 = .ok (.if_icmp .ge 17, 3) := by decide +kernel
theorem d_Ed_append_25 : decode b_Ed_append 25 = .ok (.aload_n 0, 1) := by decide +kernel
theorem d_Ed_append_26 : decode b_Ed_append 26 = .ok (.getfield 9, 3) := by decide +kernel
theorem d_Ed_append_29 : decode b_Ed_append 29 = .ok (.iload 4, 2) := by decide +kernel
theorem d_Ed_append_31 : decode b_Ed_append 31 = .ok (.iconst 0, 1) := by decide +kernel
theorem d_Ed_append_32 : decode b_Ed_append 32 = .ok (.bastore, 1) := by decide +kernel
theorem d_Ed_append_33 : decode b_Ed_append 33 = .ok (.iinc 4 1, 3) := by decide +kernel
theorem d_Ed_append_36 : decode b_Ed_append 36 = .ok (.goto (-17), 3) := by decide +kernel
theorem d_Ed_append_39 : decode b_Ed_append 39 = .ok (.aload_n 0, 1) := by decide +kernel
theorem d_Ed_append_40 : decode b_Ed_append 40 = .ok (.getfield 9, 3) := by decide +kernel
theorem d_Ed_append_43 : decode b_Ed_append 43 = .ok (.iload_n 1, 1) := by decide +kernel
theorem d_Ed_append_44 : decode b_Ed_append 44 = .ok (.iload_n 3, 1) := by decide +kernel
theorem d_Ed_append_45 : decode b_Ed_append 45 = .ok (.i2b, 1) := by decide +kernel
theorem d_Ed_append_46 : decode b_Ed_append 46 = .ok (.bastore, 1) := by decide +kernel
theorem d_Ed_append_47 : decode b_Ed_append 47 = .ok (.aload_n 0, 1) := by decide +kernel
theorem d_Ed_append_48 : decode b_Ed_append 48 = .ok (.iload_n 1, 1) := by decide +kernel
theorem d_Ed_append_49 : decode b_Ed_append 49 = .ok (.iconst 1, 1) := by decide +kernel
theorem d_Ed_append_50 : decode b_Ed_append 50 = .ok (.iadd, 1) := by decide +kernel
theorem d_Ed_append_51 : decode b_Ed_append 51 = .ok (.putfield 20, 3) := by decide +kernel
theorem d_Ed_append_54 : decode b_Ed_append 54 = .ok (.return_, 1) := by decide +kernel
theorem d_Ed_shift_0 : decode b_Ed_shift 0 = .ok (.iload_n 1, 1) := by decide +kernel
theorem d_Ed_shift_1 : decode b_Ed_shift 1 = .ok (.sipush 2200, 3) := by decide +kernel
theorem d_Ed_shift_4 : decode b_Ed_shift 4 = .ok (.invokestatic 54, 3) := by decide +kernel
theorem d_Ed_shift_7 : decode b_Ed_shift 7 = .ok (.ifCond .eq 11, 3) := by decide +kernel
theorem d_Ed_shift_10 : decode b_Ed_shift 10 = .ok (.new 58, 3) := by decide +kernel
theorem d_Ed_shift_13 : decode b_Ed_shift 13 = .ok (.dup, 1) := by decide +kernel
theorem d_Ed_shift_14 : decode b_Ed_shift 14 = .ok (.invokespecial 60, 3) := by decide +kernel
theorem d_Ed_shift_17 : decode b_Ed_shift 17 = .ok (.athrow, 1) := by decide +kernel
theorem d_Ed_shift_18 : decode b_Ed_shift 18 = .ok (.aload_n 0, 1) := by decide +kernel
theorem d_Ed_shift_19 : decode b_Ed_shift 19 = .ok (.getfield 16, 3) := by decide +kernel
theorem d_Ed_shift_22 : decode b_Ed_shift 22 = .ok (.aload_n 0, 1) := by decide +kernel
theorem d_Ed_shift_23 : decode b_Ed_shift 23 = .ok (.getfield 9, 3) := by decide +kernel
theorem d_Ed_shift_26 : decode b_Ed_shift 26 = .ok (.aload_n 0, 1) := by decide +kernel
theorem d_Ed_shift_27 : decode b_Ed_shift 27 = .ok (.getfield 20, 3) := by decide +kernel
theorem d_Ed_shift_30 : decode b_Ed_shift 30 = .ok (.invokevirtual 65, 3) := by decide +kernel
theorem d_Ed_shift_33 : decode b_Ed_shift 33 = .ok (.aload_n 0, 1) := by decide +kernel
theorem d_Ed_shift_34 : decode b_Ed_shift 34 = .ok (.getfield 24, 3) := by decide +kernel
theorem d_Ed_shift_37 : decode b_Ed_shift 37 = .ok (.aload_n 0, 1) := by decide +kernel
theorem d_Ed_shift_38 : decode b_Ed_shift 38 = .ok (.getfield 20, 3) := by decide +kernel
theorem d_Ed_shift_41 : decode b_Ed_shift 41 = .ok (.isub, 1) := by decide +kernel
theorem d_Ed_shift_42 : decode b_Ed_shift 42 = .ok (.aload_n 0, 1) := by decide +kernel
theorem d_Ed_shift_43 : decode b_Ed_shift 43 = .ok (.getfield 16, 3) := by decide +kernel
theorem d_Ed_shift_46 : decode b_Ed_shift 46 = .ok (.iload_n 1, 1) := by decide +kernel
theorem d_Ed_shift_47 : decode b_Ed_shift 47 = .ok (.invokevirtual 69, 3) := by decide +kernel
theorem d_Ed_shift_50 : decode b_Ed_shift 50 = .ok (.iadd, 1) := by decide +kernel
theorem d_Ed_shift_51 : decode b_Ed_shift 51 = .ok (.istore_n 2, 1) := by decide +kernel
theorem d_Ed_shift_52 : decode b_Ed_shift 52 = .ok (.aload_n 0, 1) := by decide +kernel
theorem d_Ed_shift_53 : decode b_Ed_shift 53 = .ok (.getfield 27, 3) := by decide +kernel
theorem d_Ed_shift_56 : decode b_Ed_shift 56 = .ok (.istore_n 3, 1) := by decide +kernel
theorem d_Ed_shift_57 : decode b_Ed_shift 57 = .ok (.aload_n 0, 1) := by decide +kernel
theorem d_Ed_shift_58 : decode b_Ed_shift 58 = .ok (.iload_n 2, 1) := by decide +kernel
theorem d_Ed_shift_59 : decode b_Ed_shift 59 = .ok (.invokevirtual 35, 3) := by decide +kernel
theorem d_Ed_shift_62 : decode b_Ed_shift 62 = .ok (.aload_n 0, 1) := by decide +kernel
theorem d_Ed_shift_63 : decode b_Ed_shift 63 = .ok (.aload_n 0, 1) := by decide +kernel
theorem d_Ed_shift_64 : decode b_Ed_shift 64 = .ok (.getfield 27, 3) := by decide +kernel
theorem d_Ed_shift_67 : decode b_Ed_shift 67 = .ok (.ifCond .ne 7, 3) := by decide +kernel
theorem d_Ed_shift_70 : decode b_Ed_shift 70 = .ok (.iload_n 3, 1) := by decide +kernel
theorem d_Ed_shift_71 : decode b_Ed_shift 71 = .ok (.ifCond .eq 7, 3) := by decide +kernel
theorem d_Ed_shift_74 : decode b_Ed_shift 74 = .ok (.iconst 1, 1) := by decide +kernel
theorem d_Ed_shift_75 : decode b_Ed_shift 75 = .ok (.goto 4, 3) := by decide +kernel
theorem d_Ed_shift_78 : decode b_Ed_shift 78 = .ok (.iconst 0, 1) := by decide +kernel
theorem d_Ed_shift_79 : decode b_Ed_shift 79 = .ok (.putfield 27, 3) := by decide +kernel
theorem d_Ed_shift_82 : decode b_Ed_shift 82 = .ok (.aload_n 0, 1) := by decide +kernel
theorem d_Ed_shift_83 : decode b_Ed_shift 83 = .ok (.getfield 20, 3) := by decide +kernel
theorem d_Ed_shift_86 : decode b_Ed_shift 86 = .ok (.ireturn, 1) := by decide +kernel
theorem d_Ed_move_0 : decode b_Ed_move 0 = .ok (.iload_n 1, 1) := by decide +kernel
theorem d_Ed_move_1 : decode b_Ed_move 1 = .ok (.sipush 5000, 3) := by decide +kernel
theorem d_Ed_move_4 : decode b_Ed_move 4 = .ok (.invokestatic 54, 3) := by decide +kernel
theorem d_Ed_move_7 : decode b_Ed_move 7 = .ok (.ifCond .eq 11, 3) := by decide +kernel
theorem d_Ed_move_10 : decode b_Ed_move 10 = .ok (.new 58, 3) := by decide +kernel
theorem d_Ed_move_13 : decode b_Ed_move 13 = .ok (.dup, 1) := by decide +kernel
theorem d_Ed_move_14 : decode b_Ed_move 14 = .ok (.invokespecial 60, 3) := by decide +kernel
theorem d_Ed_move_17 : decode b_Ed_move 17 = .ok (.athrow, 1) := by decide +kernel
theorem d_Ed_move_18 : decode b_Ed_move 18 = .ok (.aload_n 0, 1) := by decide +kernel
theorem d_Ed_move_19 : decode b_Ed_move 19 = .ok (.getfield 20, 3) := by decide +kernel
theorem d_Ed_move_22 : decode b_Ed_move 22 = .ok (.ifCond .ne 5, 3) := by decide +kernel
theorem d_Ed_move_25 : decode b_Ed_move 25 = .ok (.iconst 0, 1) := by decide +kernel
theorem d_Ed_move_26 : decode b_Ed_move 26 = .ok (.ireturn, 1) := by decide +kernel
theorem d_Ed_move_27 : decode b_Ed_move 27 = .ok (.aload_n 0, 1) := by decide +kernel
theorem d_Ed_move_28 : decode b_Ed_move 28 = .ok (.getfield 24, 3) := by decide +kernel
theorem d_Ed_move_31 : decode b_Ed_move 31 = .ok (.iload_n 1, 1) := by decide +kernel
theorem d_Ed_move_32 : decode b_Ed_move 32 = .ok (.iadd, 1) := by decide +kernel
theorem d_Ed_move_33 : decode b_Ed_move 33 = .ok (.istore_n 2, 1) := by decide +kernel
theorem d_Ed_move_34 : decode b_Ed_move 34 = .ok (.iload_n 2, 1) := by decide +kernel
theorem d_Ed_move_35 : decode b_Ed_move 35 = .ok (.sipush 10000, 3) := by decide +kernel
theorem d_Ed_move_38 : decode b_Ed_move 38 = .ok (.invokestatic 54, 3) := by decide +kernel
theorem d_Ed_move_41 : decode b_Ed_move 41 = .ok (.ifCond .eq 11, 3) := by decide +kernel
theorem d_Ed_move_44 : decode b_Ed_move 44 = .ok (.new 58, 3) := by decide +kernel
theorem d_Ed_move_47 : decode b_Ed_move 47 = .ok (.dup, 1) := by decide +kernel
theorem d_Ed_move_48 : decode b_Ed_move 48 = .ok (.invokespecial 60, 3) := by decide +kernel
theorem d_Ed_move_51 : decode b_Ed_move 51 = .ok (.athrow, 1) := by decide +kernel
theorem d_Ed_move_52 : decode b_Ed_move 52 = .ok (.aload_n 0, 1) := by decide +kernel
theorem d_Ed_move_53 : decode b_Ed_move 53 = .ok (.iload_n 2, 1) := by decide +kernel
theorem d_Ed_move_54 : decode b_Ed_move 54 = .ok (.putfield 24, 3) := by decide +kernel
theorem d_Ed_move_57 : decode b_Ed_move 57 = .ok (.aload_n 0, 1) := by decide +kernel
theorem d_Ed_move_58 : decode b_Ed_move 58 = .ok (.getfield 24, 3) := by decide +kernel
theorem d_Ed_move_61 : decode b_Ed_move 61 = .ok (.ireturn, 1) := by decide +kernel
theorem d_Ed_round_0 : decode b_Ed_round 0 = .ok (.iload_n 1, 1) := by decide +kernel
theorem d_Ed_round_1 : decode b_Ed_round 1 = .ok (.sipush 2000, 3) := by decide +kernel
theorem d_Ed_round_4 : decode b_Ed_round 4 = .ok (.invokestatic 54, 3) := by decide +kernel
theorem d_Ed_round_7 : decode b_Ed_round 7 = .ok (.ifCond .eq 11, 3) := by decide +kernel
theorem d_Ed_round_10 : decode b_Ed_round 10 = .ok (.new 58, 3) := by decide +kernel
theorem d_Ed_round_13 : decode b_Ed_round 13 = .ok (.dup, 1) := by decide +kernel
theorem d_Ed_round_14 : decode b_Ed_round 14 = .ok (.invokespecial 60, 3) := by decide +kernel
theorem d_Ed_round_17 : decode b_Ed_round 17 = .ok (.athrow, 1) := by decide +kernel
theorem d_Ed_round_18 : decode b_Ed_round 18 = .ok (.aload_n 0, 1) := by decide +kernel
theorem d_Ed_round_19 : decode b_Ed_round 19 = .ok (.getfield 24, 3) := by decide +kernel
theorem d_Ed_round_22 : decode b_Ed_round 22 = .ok (.iload_n 1, 1) := by decide +kernel
theorem d_Ed_round_23 : decode b_Ed_round 23 = .ok (.iadd, 1) := by decide +kernel
theorem d_Ed_round_24 : decode b_Ed_round 24 = .ok (.istore_n 2, 1) := by decide +kernel
theorem d_Ed_round_25 : decode b_Ed_round 25 = .ok (.iload_n 2, 1) := by decide +kernel
theorem d_Ed_round_26 : decode b_Ed_round 26 = .ok (.ifCond .lt 29, 3) := by decide +kernel
theorem d_Ed_round_29 : decode b_Ed_round 29 = .ok (.iload_n 2, 1) := by decide +kernel
theorem d_Ed_round_30 : decode b_Ed_round 30 = .ok (.aload_n 0, 1) := by decide +kernel
theorem d_Ed_round_31 : decode b_Ed_round 31 = .ok (.getfield 20, 3) := by decide +kernel
theorem d_Ed_round_34 : decode b_Ed_round 34 = .ok (.if_icmp .ge 21, 3) := by decide +kernel
theorem d_Ed_round_37 : decode b_Ed_round 37 = .ok (.aload_n 0, 1) := by decide +kernel
theorem d_Ed_round_38 : decode b_Ed_round 38 = .ok (.getfield 9, 3) := by decide +kernel
theorem d_Ed_round_41 : decode b_Ed_round 41 = .ok (.iload_n 2, 1) := by decide +kernel
theorem d_Ed_round_42 : decode b_Ed_round 42 = .ok (.baload, 1) := by decide +kernel
theorem d_Ed_round_43 : decode b_Ed_round 43 = .ok (.iconst 5, 1) := by decide +kernel
theorem d_Ed_round_44 : decode b_Ed_round 44 = .ok (.if_icmp .lt 11, 3) := by decide +kernel
theorem d_Ed_round_47 : decode b_Ed_round 47 = .ok (.aload_n 0, 1) := by decide +kernel
theorem d_Ed_round_48 : decode b_Ed_round 48 = .ok (.iload_n 2, 1) := by decide +kernel
theorem d_Ed_round_49 : decode b_Ed_round 49 = .ok (.invokevirtual 73, 3) := by decide +kernel
theorem d_Ed_round_52 : decode b_Ed_round 52 = .ok (.goto 8, 3) := by decide +kernel
theorem d_Ed_round_55 : decode b_Ed_round 55 = .ok (.aload_n 0, 1) := by decide +kernel
theorem d_Ed_round_56 : decode b_Ed_round 56 = .ok (.iload_n 2, 1) := by decide +kernel
theorem d_Ed_round_57 : decode b_Ed_round 57 = .ok (.invokevirtual 76, 3) := by decide +kernel
theorem d_Ed_round_60 : decode b_Ed_round 60 = .ok (.aload_n 0, 1) := by decide +kernel
theorem d_Ed_round_61 : decode b_Ed_round 61 = .ok (.getfield 20, 3) := by decide +kernel
theorem d_Ed_round_64 : decode b_Ed_round 64 = .ok (.ireturn, 1) := by decide +kernel
theorem d_Ed_keepFirstAndOneMore_0 : decode b_Ed_keepFirstAndOneMore 0 = .ok (.iload_n 1, 1) := by decide +kernel
theorem d_Ed_keepFirstAndOneMore_1 : decode b_Ed_keepFirstAndOneMore 1 = .ok (.iconst 1, 1) := by decide +kernel
theorem d_Ed_keepFirstAndOneMore_2 : decode b_Ed_keepFirstAndOneMore 2 = .ok (.isub, 1) := by decide +kernel
theorem d_Ed_keepFirstAndOneMore_3 : decode b_Ed_keepFirstAndOneMore 3 = .ok (.istore_n 2, 1) := by decide +kernel
theorem d_Ed_keepFirstAndOneMore_4 : decode b_Ed_keepFirstAndOneMore 4 = .ok (.iload_n 2, 1) := by decide +kernel
theorem d_Ed_keepFirstAndOneMore_5 : decode b_Ed_keepFirstAndOneMore 5 = .ok (.ifCond .lt 20, 3) := by decide +kernel
theorem d_Ed_keepFirstAndOneMore_8 : decode b_Ed_keepFirstAndOneMore 8 = .ok (.aload_n 0, 1) := by decide +kernel
theorem d_Ed_keepFirstAndOneMore_9 : decode b_Ed_keepFirstAndOneMore 9 = .ok (.getfield 9, 3) := by decide +kernel
theorem d_Ed_keepFirstAndOneMore_12 : decode b_Ed_keepFirstAndOneMore 12 = .ok (.iload_n 2, 1) := by decide +kernel
theorem d_Ed_keepFirstAndOneMore_13 : decode b_Ed_keepFirstAndOneMore 13 = .ok (.baload, 1) := by decide +kernel
theorem d_Ed_keepFirstAndOneMore_14 : decode b_Ed_keepFirstAndOneMore 14 = .ok (.bipush 9, 2) := by decide +kernel
theorem d_Ed_keepFirstAndOneMore_16 : decode b_Ed_keepFirstAndOneMore 16 = .ok (.if_icmp .ne 9, 3) := by decide +kernel
theorem d_Ed_keepFirstAndOneMore_19 : decode b_Ed_keepFirstAndOneMore 19 = .ok (.iinc 2 (-1), 3) := by decide +kernel
theorem d_Ed_keepFirstAndOneMore_22 : decode b_Ed_keepFirstAndOneMore 22 = .ok (.goto (-18), 3) := by decide +kernel
theorem d_Ed_keepFirstAndOneMore_25 : decode b_Ed_keepFirstAndOneMore 25 = .ok (.iload_n 2, 1) := by decide +kernel
theorem d_Ed_keepFirstAndOneMore_26 : decode b_Ed_keepFirstAndOneMore 26 = .ok (.ifCond .ge 28, 3) := by decide +kernel
theorem d_Ed_keepFirstAndOneMore_29 : decode b_Ed_keepFirstAndOneMore 29 = .ok (.aload_n 0, 1) := by decide +kernel
theorem d_Ed_keepFirstAndOneMore_30 : decode b_Ed_keepFirstAndOneMore 30 = .ok (.getfield 9, 3) := by decide +kernel
theorem d_Ed_keepFirstAndOneMore_33 : decode b_Ed_keepFirstAndOneMore 33 = .ok (.iconst 0, 1) := by decide +kernel
theorem d_Ed_keepFirstAndOneMore_34 : decode b_Ed_keepFirstAndOneMore 34 = .ok (.iconst 1, 1) := by decide +kernel
theorem d_Ed_keepFirstAndOneMore_35 : decode b_Ed_keepFirstAndOneMore 35 = .ok (.bastore, 1) := by decide +kernel
theorem d_Ed_keepFirstAndOneMore_36 : decode b_Ed_keepFirstAndOneMore 36 = .ok (.aload_n 0, 1) := by decide +kernel
theorem d_Ed_keepFirstAndOneMore_37 : decode b_Ed_keepFirstAndOneMore 37 = .ok (.iconst 1, 1) := by decide +kernel
theorem d_Ed_keepFirstAndOneMore_38 : decode b_Ed_keepFirstAndOneMore 38 = .ok (.putfield 20, 3) := by decide +kernel
theorem d_Ed_keepFirstAndOneMore_41 : decode b_Ed_keepFirstAndOneMore 41 = .ok (.aload_n 0, 1) := by decide +kernel
theorem d_Ed_keepFirstAndOneMore_42 : decode b_Ed_keepFirstAndOneMore 42 = .ok (.dup, 1) := by decide +kernel
theorem d_Ed_keepFirstAndOneMore_43 : decode b_Ed_keepFirstAndOneMore 43 = .ok (.getfield 24, 3) := by decide +kernel
theorem d_Ed_keepFirstAndOneMore_46 : decode b_Ed_keepFirstAndOneMore 46 = .ok (.iconst 1, 1) := by decide +kernel
theorem d_Ed_keepFirstAndOneMore_47 : decode b_Ed_keepFirstAndOneMore 47 = .ok (.iadd, 1) := by decide +kernel
theorem d_Ed_keepFirstAndOneMore_48 : decode b_Ed_keepFirstAndOneMore 48 = .ok (.putfield 24, 3) := by decide +kernel
theorem d_Ed_keepFirstAndOneMore_51 : decode b_Ed_keepFirstAndOneMore 51 = .ok (.goto 21, 3) := by decide +kernel
theorem d_Ed_keepFirstAndOneMore_54 : decode b_Ed_keepFirstAndOneMore 54 = .ok (.aload_n 0, 1) := by decide +kernel
theorem d_Ed_keepFirstAndOneMore_55 : decode b_Ed_keepFirstAndOneMore 55 = .ok (.getfield 9, 3) := by decide +kernel
theorem d_Ed_keepFirstAndOneMore_58 : decode b_Ed_keepFirstAndOneMore 58 = .ok (.iload_n 2, 1) := by decide +kernel
theorem d_Ed_keepFirstAndOneMore_59 : decode b_Ed_keepFirstAndOneMore 59 = .ok (.dup2, 1) := by decide +kernel
theorem d_Ed_keepFirstAndOneMore_60 : decode b_Ed_keepFirstAndOneMore 60 = .ok (.baload, 1) := by decide +kernel
theorem d_Ed_keepFirstAndOneMore_61 : decode b_Ed_keepFirstAndOneMore 61 = .ok (.iconst 1, 1) := by decide +kernel
theorem d_Ed_keepFirstAndOneMore_62 : decode b_Ed_keepFirstAndOneMore 62 = .ok (.iadd, 1) := by decide +kernel
theorem d_Ed_keepFirstAndOneMore_63 : decode b_Ed_keepFirstAndOneMore 63 = .ok (.i2b, 1) := by decide +kernel
theorem d_Ed_keepFirstAndOneMore_64 : decode b_Ed_keepFirstAndOneMore 64 = .ok (.bastore, 1) := by decide +kernel
theorem d_Ed_keepFirstAndOneMore_65 : decode b_Ed_keepFirstAndOneMore 65 = .ok (.aload_n 0, 1) := by decide +kernel
theorem d_Ed_keepFirstAndOneMore_66 : decode b_Ed_keepFirstAndOneMore 66 = .ok (.iload_n 2, 1) := by decide +kernel
theorem d_Ed_keepFirstAndOneMore_67 : decode b_Ed_keepFirstAndOneMore 67 = .ok (.iconst 1, 1) := by decide +kernel
theorem d_Ed_keepFirstAndOneMore_68 : decode b_Ed_keepFirstAndOneMore 68 = .ok (.iadd, 1) := by decide +kernel
theorem d_Ed_keepFirstAndOneMore_69 : decode b_Ed_keepFirstAndOneMore 69 = .ok (.putfield 20, 3) := by decide +kernel
theorem d_Ed_keepFirstAndOneMore_72 : decode b_Ed_keepFirstAndOneMore 72 = .ok (.aload_n 0, 1) := by decide +kernel
theorem d_Ed_keepFirstAndOneMore_73 : decode b_Ed_keepFirstAndOneMore 73 = .ok (.iconst 0, 1) := by decide +kernel
theorem d_Ed_keepFirstAndOneMore_74 : decode b_Ed_keepFirstAndOneMore 74 = .ok (.putfield 27, 3) := by decide +kernel
theorem d_Ed_keepFirstAndOneMore_77 : decode b_Ed_keepFirstAndOneMore 77 = .ok (.return_, 1) := by decide +kernel
theorem d_Ed_keepFirst_0 : decode b_Ed_keepFirst 0 = .ok (.aload_n 0, 1) := by decide +kernel
theorem d_Ed_keepFirst_1 : decode b_Ed_keepFirst 1 = .ok (.aload_n 0, 1) := by decide +kernel
theorem d_Ed_keepFirst_2 : decode b_Ed_keepFirst 2 = .ok (.getfield 20, 3) := by decide +kernel
theorem d_Ed_keepFirst_5 : decode b_Ed_keepFirst 5 = .ok (.iload_n 1, 1) := by decide +kernel
theorem d_Ed_keepFirst_6 : decode b_Ed_keepFirst 6 = .ok (.iconst 0, 1) := by decide +kernel
theorem d_Ed_keepFirst_7 : decode b_Ed_keepFirst 7 = .ok (.invokestatic 131, 3) := by decide +kernel
theorem d_Ed_keepFirst_10 : decode b_Ed_keepFirst 10 = .ok (.invokestatic 115, 3) := by decide +kernel
theorem d_Ed_keepFirst_13 : decode b_Ed_keepFirst 13 = .ok (.putfield 20, 3) := by decide +kernel
theorem d_Ed_keepFirst_16 : decode b_Ed_keepFirst 16 = .ok (.aload_n 0, 1) := by decide +kernel
theorem d_Ed_keepFirst_17 : decode b_Ed_keepFirst 17 = .ok (.iconst 0, 1) := by decide +kernel
theorem d_Ed_keepFirst_18 : decode b_Ed_keepFirst 18 = .ok (.putfield 27, 3) := by decide +kernel
theorem d_Ed_keepFirst_21 : decode b_Ed_keepFirst 21 = .ok (.aload_n 0, 1) := by decide +kernel
theorem d_Ed_keepFirst_22 : decode b_Ed_keepFirst 22 = .ok (.invokevirtual 121, 3) := by decide +kernel
theorem d_Ed_keepFirst_25 : decode b_Ed_keepFirst 25 = .ok (.return_, 1) := by decide +kernel
theorem d_Ed_cut_0 : decode b_Ed_cut 0 = .ok (.iload_n 1, 1) := by decide +kernel
theorem d_Ed_cut_1 : decode b_Ed_cut 1 = .ok (.sipush 2000, 3) := by decide +kernel
theorem d_Ed_cut_4 : decode b_Ed_cut 4 = .ok (.invokestatic 54, 3) := by decide +kernel
theorem d_Ed_cut_7 : decode b_Ed_cut 7 = .ok (.ifCond .eq 11, 3) := by decide +kernel
theorem d_Ed_cut_10 : decode b_Ed_cut 10 = .ok (.new 58, 3) := by decide +kernel
theorem d_Ed_cut_13 : decode b_Ed_cut 13 = .ok (.dup, 1) := by decide +kernel
theorem d_Ed_cut_14 : decode b_Ed_cut 14 = .ok (.invokespecial 60, 3) := by decide +kernel
theorem d_Ed_cut_17 : decode b_Ed_cut 17 = .ok (.athrow, 1) := by decide +kernel
theorem d_Ed_cut_18 : decode b_Ed_cut 18 = .ok (.aload_n 0, 1) := by decide +kernel
theorem d_Ed_cut_19 : decode b_Ed_cut 19 = .ok (.aload_n 0, 1) := by decide +kernel
theorem d_Ed_cut_20 : decode b_Ed_cut 20 = .ok (.getfield 24, 3) := by decide +kernel
theorem d_Ed_cut_23 : decode b_Ed_cut 23 = .ok (.iload_n 1, 1) := by decide +kernel
theorem d_Ed_cut_24 : decode b_Ed_cut 24 = .ok (.iadd, 1) := by decide +kernel
theorem d_Ed_cut_25 : decode b_Ed_cut 25 = .ok (.invokevirtual 76, 3) := by decide +kernel
theorem d_Ed_cut_28 : decode b_Ed_cut 28 = .ok (.aload_n 0, 1) := by decide +kernel
theorem d_Ed_cut_29 : decode b_Ed_cut 29 = .ok (.getfield 20, 3) := by decide +kernel
theorem d_Ed_cut_32 : decode b_Ed_cut 32 = .ok (.ireturn, 1) := by decide +kernel
theorem d_Ed_told_0 : decode b_Ed_told 0 = .ok (.iload_n 1, 1) := by decide +kernel
theorem d_Ed_told_1 : decode b_Ed_told 1 = .ok (.tableswitch 50 0 2 #[27, 32, 37], 27) := by decide +kernel
theorem d_Ed_told_28 : decode b_Ed_told 28 = .ok (.aload_n 0, 1) := by decide +kernel
theorem d_Ed_told_29 : decode b_Ed_told 29 = .ok (.getfield 20, 3) := by decide +kernel
theorem d_Ed_told_32 : decode b_Ed_told 32 = .ok (.ireturn, 1) := by decide +kernel
theorem d_Ed_told_33 : decode b_Ed_told 33 = .ok (.aload_n 0, 1) := by decide +kernel
theorem d_Ed_told_34 : decode b_Ed_told 34 = .ok (.getfield 24, 3) := by decide +kernel
theorem d_Ed_told_37 : decode b_Ed_told 37 = .ok (.ireturn, 1) := by decide +kernel
theorem d_Ed_told_38 : decode b_Ed_told 38 = .ok (.aload_n 0, 1) := by decide +kernel
theorem d_Ed_told_39 : decode b_Ed_told 39 = .ok (.getfield 27, 3) := by decide +kernel
theorem d_Ed_told_42 : decode b_Ed_told 42 = .ok (.ifCond .eq 7, 3) := by decide +kernel
theorem d_Ed_told_45 : decode b_Ed_told 45 = .ok (.iconst 1, 1) := by decide +kernel
theorem d_Ed_told_46 : decode b_Ed_told 46 = .ok (.goto 4, 3) := by decide +kernel
theorem d_Ed_told_49 : decode b_Ed_told 49 = .ok (.iconst 0, 1) := by decide +kernel
theorem d_Ed_told_50 : decode b_Ed_told 50 = .ok (.ireturn, 1) := by decide +kernel
theorem d_Ed_told_51 : decode b_Ed_told 51 = .ok (.new 58, 3) := by decide +kernel
theorem d_Ed_told_54 : decode b_Ed_told 54 = .ok (.dup, 1) := by decide +kernel
theorem d_Ed_told_55 : decode b_Ed_told 55 = .ok (.invokespecial 60, 3) := by decide +kernel
theorem d_Ed_told_58 : decode b_Ed_told 58 = .ok (.athrow, 1) := by decide +kernel
end
section
/-! pure rows for Natural -/
theorem sd_e {X n i : Nat} (h : i < n) : X / 10 ^ (n - i) % 10 ^ (8 - (n - 1 - i) % 9) * 10 + X / 10 ^ (n - 1 - i) % 10 = X / 10 ^ (n - 1 - i) % 10 ^ (9 - (n - 1 - i) % 9) := by
  have e1 : n - i = n - 1 - i + 1 := by omega
  have e2 : 9 - (n - 1 - i) % 9 = 8 - (n - 1 - i) % 9 + 1 := by omega
  rw [e1, e2, Nat.pow_succ 10 (n - 1 - i), ← Nat.div_div_eq_div_mul]
  exact sd_step _ _
theorem sd_f (x p : Nat) : x % 10 ^ (9 - p) < 1000000000 := by
  have h1 : x % 10 ^ (9 - p) < 10 ^ (9 - p) := Nat.mod_lt _ (p10_pos _)
  have h2 : 10 ^ (9 - p) ≤ 10 ^ 9 := p10_le (by omega)
  omega
theorem sd_a {X n i : Nat} (h : i + 1 < n) (h9 : (n - 1 - i) % 9 = 0) : 0 = X / 10 ^ (n - (i + 1)) % 10 ^ (8 - (n - 1 - (i + 1)) % 9) := by
  have e : 8 - (n - 1 - (i + 1)) % 9 = 0 := by omega
  rw [e, Nat.pow_zero, Nat.mod_one]
theorem sd_c {X n i : Nat} (h : i + 1 < n) (h9 : ¬ (n - 1 - i) % 9 = 0) : X / 10 ^ (n - 1 - i) % 10 ^ (9 - (n - 1 - i) % 9) = X / 10 ^ (n - (i + 1)) % 10 ^ (8 - (n - 1 - (i + 1)) % 9) := by
  have e1 : n - (i + 1) = n - 1 - i := by omega
  have e2 : 8 - (n - 1 - (i + 1)) % 9 = 9 - (n - 1 - i) % 9 := by omega
  rw [e1, e2]
theorem sd_b {h : Nat → Int32} {X n i m : Nat} {x : Int32} (hpa : ∀ j, n - i ≤ 9 * j → j < m → h j = iI ((X / 1000000000 ^ j % 1000000000 : Nat) : Int)) (hi : i < n) (h9 : (n - 1 - i) % 9 = 0) (hx : x = iI ((X / 10 ^ (n - 1 - i) % 10 ^ (9 - (n - 1 - i) % 9) : Nat) : Int)) :
    ∀ j, n - (i + 1) ≤ 9 * j → j < m → upd h ((n - 1 - i) / 9) x j = iI ((X / 1000000000 ^ j % 1000000000 : Nat) : Int) := by
  intro j h1 h2
  by_cases e : j = (n - 1 - i) / 9
  · have e2 : 1000000000 ^ j = 10 ^ (n - 1 - i) := by
      rw [pB_10, e]; congr 1; omega
    have e3 : 10 ^ (9 - (n - 1 - i) % 9) = 1000000000 := by rw [h9]
    rw [hx, e2, e3, e, pk_us]
  · rw [pk_un e]; exact hpa j (by omega) h2
theorem sd_d {h : Nat → Int32} {X n i m : Nat} (hpa : ∀ j, n - i ≤ 9 * j → j < m → h j = iI ((X / 1000000000 ^ j % 1000000000 : Nat) : Int)) (hi : i < n) (h9 : ¬ (n - 1 - i) % 9 = 0) :
    ∀ j, n - (i + 1) ≤ 9 * j → j < m → h j = iI ((X / 1000000000 ^ j % 1000000000 : Nat) : Int) := fun j h1 h2 => hpa j (by omega) h2
theorem sd_g {h : Nat → Int32} {X n : Nat} (hn : n ≤ 1200) (hX1 : X < 10 ^ n) (hX2 : 0 < n → 10 ^ (n - 1) ≤ X) (hh : ∀ j, j < (n + 8) / 9 → h j = iI ((X / 1000000000 ^ j % 1000000000 : Nat) : Int)) : nt_ok h ((n + 8) / 9) X := by
  refine ⟨by omega, ?_, fun z => ?_, hh⟩
  · rw [pB_10]; exact Nat.lt_of_lt_of_le hX1 (p10_le (by omega))
  · rw [pB_10]; exact Nat.le_trans (p10_le (by omega)) (hX2 (by omega))
/-- times two to k, the tens apart: 2^k, or 5^-k -/
def tw2p (k : Int) : Nat := 2 ^ k.toNat
def tw2 (k : Int) : Nat := tw2p k * 5 ^ (-k).toNat
theorem tw2_a (V : Nat) (k : Int) : V * tw2p k ≤ V * tw2 k := Nat.mul_le_mul_left _ (Nat.le_mul_of_pos_right _ (Nat.pow_pos (by decide)))
theorem tw2_b (V : Nat) (k : Int) : V * tw2p k * 5 ^ (-k).toNat = V * tw2 k := by rw [tw2, Nat.mul_assoc]
theorem tw2_pos (k : Int) : 0 < tw2 k := Nat.mul_pos (Nat.pow_pos (by decide)) (Nat.pow_pos (by decide))
theorem shl1 : ∀ n, n < 30 → iI 1 <<< (nI n &&& 31) = nI (2 ^ n) := by decide +kernel
end
section
set_option maxHeartbeats 4000000 in
set_option maxRecDepth 100000 in
/-- times(F) -/
theorem c_Na_times (l : Launch) (D : va_G) (cB cI cJ : ClassId) (t5 : Nat) (ad : Nat → Nat) (q pa : Nat) (f : Nat → Int32) (sz V F : Nat) (hV : nt_ok f sz V) (hF : 0 < F ∧ F < 1000000000) (hR : V * F < 1000000000 ^ 306) : c_V l m_Na_times (Cond.code m_Na_times b_Na_times 7 none :: gw) (rm_ 0 0) (eX t5 ad) D ecl (tyS cB cI cJ) [.ref q, .int (iI ((F : Int)))] [(q, .inr (0, [.ref pa, .int (iI ((sz : Int)))])), (pa, .inl (cI, 306, .inl f))] (fun u => ∃ (f' : Nat → Int32) (sz' : Nat), u = [(q, .inr (0, [.ref pa, .int (iI ((sz' : Int)))])), (pa, .inl (cI, 306, .inl f'))] ∧ nt_ok f' sz' (V * F)) 0 0 := by
  intro sz0
  refine Met.ofW (cc := b_Na_times) (maxL := 7) (ret := none) (by decide) rfl ?_
  intro p e s m args below meth c s₁ B hml hv
  obtain ⟨rfl, hsz, hP, hK, hD0, hE⟩ := hv
  have hx := B.exec
  have hb := B.bytes
  have hr := B.returns
  have hts := atoms_spec (ws := Cond.code m_Na_times b_Na_times 7 none :: gw) B.pre
  have hown : s.vm.findClass R_Na = some m.cls := findClass_of_methodNamed B.named
  have hlocks := B.notSynchronized
  subst hsz
  have hD := hD0.self (sz := s.heap.size)
  generalize hAe : va_A [(q, .inr (0, [.ref pa, .int (iI ((sz : Int)))])), (pa, .inl (cI, 306, .inl f))] s.heap.size = A at hD hE ⊢
  have hA : ∀ q : Nat, s.heap.size ≤ q → A q := fun q h => by rw [← hAe]; exact Or.inr h
  have hS : va_S A s.heap s.heap [] := va_S.rf
  have hl := lv_entry ([.ref q, .int (iI ((F : Int)))]) (n := 7) (Nat.le_of_ble_eq_true rfl)
  rw [lg_entry_eq]
  generalize (lg_sl ([.ref q, .int (iI ((F : Int)))]) ++ List.replicate (7 - (lg_sl ([.ref q, .int (iI ((F : Int)))])).length) Slot.unset).toArray = ls at hl ⊢
  have hl : lv_has ls 7 [(0, .ref q), (1, .int (iI ((F : Int))))] := hl
  obtain ⟨hV1, hV2, hV3, hV4⟩ := hV
  have L5 : ∀ (n9 : Nat) (i : Nat) (g : Nat → Int32) (cn : Nat) (zi : Int) (cy : Int) (ls : Array Slot) (H : Heap) (locs : List Loc), sz - i = n9 → (zi = (i : Int)) → (cy = (cn : Int)) → (cn = V % 1000000000 ^ i * F / 1000000000 ^ i) → (i ≤ sz) → ((∀ j, j < i → g j = iI ((V * F / 1000000000 ^ j % 1000000000 : Nat) : Int))) → ((∀ j, i ≤ j → j < sz → g j = iI ((V / 1000000000 ^ j % 1000000000 : Nat) : Int))) → lv_has ls 7 [(0, .ref q), (1, .int (iI ((F : Int)))), (4, .int (iI (zi))), (2, .long (jI (cy)))] → va_P D ecl [(q, .inr (0, [.ref pa, .int (iI ((sz : Int)))])), (pa, .inl (cI, 306, .inl g))] H → va_D A [(q, .inr (0, [.ref pa, .int (iI ((sz : Int)))])), (pa, .inl (cI, 306, .inl g))] → va_S A s.heap H locs → W p l e (headSpec (Cond.code m_Na_times b_Na_times 7 none :: gw) (rm_ 0 0)).room s m ([.ref q, .int (iI ((F : Int)))] : List Value).toArray below meth c H locs 0 0 (MQ below (va_Qv (fun u => ∃ (f' : Nat → Int32) (sz' : Nat), u = [(q, .inr (0, [.ref pa, .int (iI ((sz' : Int)))])), (pa, .inl (cI, 306, .inl f'))] ∧ nt_ok f' sz' (V * F)) (c_B D ecl A) A) ([.ref q, .int (iI ((F : Int)))] : List Value).toArray s 0 0 A) (F0 m 5 ls []) := by
    intro n9
    induction n9 using Nat.strongRecOn with
    | ind n9 ih =>
    intro i g cn zi cy ls H locs hn9 hi hc hcn hle hlo hhi hl hP hD hS
    refine lv_iload hx hb d_Na_times_5 (lv_at hl 2 rfl) ?_
    refine lv_aload_n hx hb d_Na_times_7 rfl (lv_at hl 0 rfl) ?_
    refine va_get (D := D) (ci := 0) (v := .int (iI ((sz : Int)))) (C := R_Na) (T := T_Na) (N := 2) hx hb hts (fun w h => List.mem_cons_of_mem _ (in_Na w h)) hown hK hP 0 rfl rfl 1 (by decide) (hts _ (List.mem_cons_of_mem _ tw_32)) (fun _ h9 => h9) rfl d_Na_times_8 ?_
    refine ed_icmp_ge (tgt := 58) hx hb d_Na_times_11 rfl (by omega) (by omega) (fun h_1 => ?_) (fun h_1 => ?_)
    · skip
      refine ed_pc (pc' := 58) rfl ?_
      have hsz : i = sz := by omega
      have hlo : ∀ j, j < sz → g j = iI ((V * F / 1000000000 ^ j % 1000000000 : Nat) : Int) := fun j hj => hlo j (by omega)
      have hcs : cn < F := by rw [hcn]; exact tm_small (by decide) hF.1
      rw [hsz, tm_last hV2] at hcn
      refine lv_lload_n hx hb d_Na_times_58 rfl (lv_at hl 3 rfl) ?_
      refine lv_lconst (v := jI 0) hx hb d_Na_times_59 (by decide +kernel) ?_
      refine ed_lif_eq (tgt := 97) hx hb d_Na_times_60 d_Na_times_61 rfl (by omega) (by omega) (fun h_2 => ?_) (fun h_2 => ?_)
      · skip
        refine ed_pc (pc' := 97) rfl ?_
        have h0 : V * F / 1000000000 ^ sz = 0 := by
          rcases Nat.lt_or_ge sz 306 with z | z
          · rw [← hcn]; omega
          · have h306 : sz = 306 := by omega
            rw [h306]; exact Nat.div_eq_of_lt hR
        have hlt : V * F < 1000000000 ^ sz := by rcases Nat.div_eq_zero_iff.mp h0 with z | z; exact absurd z (Nat.ne_of_gt (pB_pos sz)); exact z
        exact W.vret hx hb hr (fun t9 ht9 hW9 => ⟨⟨[(q, .inr (0, [.ref pa, .int (iI ((sz : Int)))])), (pa, .inl (cI, 306, .inl g))], rfl, ⟨_, _, rfl, hV1, hlt, fun z => Nat.le_trans (hV3 z) (Nat.le_mul_of_pos_right V hF.1), hlo⟩, by rw [ht9]; exact hP, hD⟩, hS.F ht9⟩) hS.2.2 d_Na_times_97
      · skip
        refine ed_pc (pc' := 64) rfl ?_
        refine ed_pc (pc' := 64) rfl ?_
        refine lv_aload_n hx hb d_Na_times_64 rfl (lv_at hl 0 rfl) ?_
        refine va_get (D := D) (ci := 0) (v := .int (iI ((sz : Int)))) (C := R_Na) (T := T_Na) (N := 2) hx hb hts (fun w h => List.mem_cons_of_mem _ (in_Na w h)) hown hK hP 0 rfl rfl 1 (by decide) (hts _ (List.mem_cons_of_mem _ tw_32)) (fun _ h9 => h9) rfl d_Na_times_65 ?_
        refine lv_aload_n hx hb d_Na_times_68 rfl (lv_at hl 0 rfl) ?_
        refine va_get (D := D) (ci := 0) (v := .ref pa) (C := R_Na) (T := T_Na) (N := 2) hx hb hts (fun w h => List.mem_cons_of_mem _ (in_Na w h)) hown hK hP 0 rfl rfl 0 (by decide) (hts _ (List.mem_cons_of_mem _ tw_31)) (fun _ h9 => h9) rfl d_Na_times_69 ?_
        refine va_alen (v := iI 306) hx hb hK hP 1 1 rfl rfl rfl d_Na_times_72 ?_
        refine ed_icmp_ge (tgt := 97) hx hb d_Na_times_73 rfl (by omega) (by omega) (fun h_3 => ?_) (fun h_3 => ?_)
        · skip
          refine ed_pc (pc' := 97) rfl ?_
          have h0 : V * F / 1000000000 ^ sz = 0 := by
            rcases Nat.lt_or_ge sz 306 with z | z
            · rw [← hcn]; omega
            · have h306 : sz = 306 := by omega
              rw [h306]; exact Nat.div_eq_of_lt hR
          have hlt : V * F < 1000000000 ^ sz := by rcases Nat.div_eq_zero_iff.mp h0 with z | z; exact absurd z (Nat.ne_of_gt (pB_pos sz)); exact z
          exact W.vret hx hb hr (fun t9 ht9 hW9 => ⟨⟨[(q, .inr (0, [.ref pa, .int (iI ((sz : Int)))])), (pa, .inl (cI, 306, .inl g))], rfl, ⟨_, _, rfl, hV1, hlt, fun z => Nat.le_trans (hV3 z) (Nat.le_mul_of_pos_right V hF.1), hlo⟩, by rw [ht9]; exact hP, hD⟩, hS.F ht9⟩) hS.2.2 d_Na_times_97
        · skip
          refine ed_pc (pc' := 76) rfl ?_
          refine lv_aload_n hx hb d_Na_times_76 rfl (lv_at hl 0 rfl) ?_
          refine va_get (D := D) (ci := 0) (v := .ref pa) (C := R_Na) (T := T_Na) (N := 2) hx hb hts (fun w h => List.mem_cons_of_mem _ (in_Na w h)) hown hK hP 0 rfl rfl 0 (by decide) (hts _ (List.mem_cons_of_mem _ tw_31)) (fun _ h9 => h9) rfl d_Na_times_77 ?_
          refine ed_pc (pc' := 80) rfl ?_
          refine lv_aload_n hx hb d_Na_times_80 rfl (lv_at hl 0 rfl) ?_
          refine va_get (D := D) (ci := 0) (v := .int (iI ((sz : Int)))) (C := R_Na) (T := T_Na) (N := 2) hx hb hts (fun w h => List.mem_cons_of_mem _ (in_Na w h)) hown hK hP 0 rfl rfl 1 (by decide) (hts _ (List.mem_cons_of_mem _ tw_32)) (fun _ h9 => h9) rfl d_Na_times_81 ?_
          refine lv_lload_n hx hb d_Na_times_84 rfl (lv_at hl 3 rfl) ?_
          refine ed_l2i hx hb d_Na_times_85 ?_
          refine ed_iast hx hb hK hP hD hS 1 1 rfl rfl (i) (by omega) (by omega) (by decide) d_Na_times_86 (fun H locs hP hD hS => ?_)
          have hP : va_P D ecl [(q, .inr (0, [.ref pa, .int (iI ((sz : Int)))])), (pa, .inl (cI, 306, .inl (upd g (i) ((iI (cy))))))] H := hP
          have hD : va_D A [(q, .inr (0, [.ref pa, .int (iI ((sz : Int)))])), (pa, .inl (cI, 306, .inl (upd g (i) ((iI (cy))))))] := hD
          refine lv_aload_n hx hb d_Na_times_87 rfl (lv_at hl 0 rfl) ?_
          refine lv_dup hx hb d_Na_times_88 rfl ?_
          refine va_get (D := D) (ci := 0) (v := .int (iI ((sz : Int)))) (C := R_Na) (T := T_Na) (N := 2) hx hb hts (fun w h => List.mem_cons_of_mem _ (in_Na w h)) hown hK hP 0 rfl rfl 1 (by decide) (hts _ (List.mem_cons_of_mem _ tw_32)) (fun _ h9 => h9) rfl d_Na_times_89 ?_
          refine ed_pc (pc' := 92) rfl ?_
          refine lv_iconst (v := iI 1) hx hb d_Na_times_92 rfl ?_
          refine ed_iadd hx hb d_Na_times_93 ?_
          refine va_put (D := D) (ci := 0) (v := .int (iI (((sz : Int)) + (1)))) (ty := .int) (C := R_Na) (T := T_Na) (N := 2) hx hb hts (fun w h => List.mem_cons_of_mem _ (in_Na w h)) y_Na t_Na n_Na hown hK hP hD hS 0 rfl rfl 1 (by decide) (hts _ (List.mem_cons_of_mem _ tw_32)) (fun _ h9 => h9) rfl (by decide +kernel) rfl rfl (Nat.le_of_ble_eq_true rfl) d_Na_times_94 (fun H locs hP hD hS => ?_)
          have hP : va_P D ecl [(q, .inr (0, [.ref pa, .int (iI (((sz : Int)) + (1)))])), (pa, .inl (cI, 306, .inl (upd g (i) ((iI (cy))))))] H := hP
          have hD : va_D A [(q, .inr (0, [.ref pa, .int (iI (((sz : Int)) + (1)))])), (pa, .inl (cI, 306, .inl (upd g (i) ((iI (cy))))))] := hD
          have hge : 1000000000 ^ sz ≤ V * F := by
            rcases Nat.lt_or_ge (V * F) (1000000000 ^ sz) with z | z
            · rw [Nat.div_eq_of_lt z] at hcn; omega
            · exact z
          have hlt : V * F / 1000000000 ^ sz < 1000000000 := by rw [← hcn]; omega
          have hlt2 : V * F < 1000000000 ^ (sz + 1) := by rw [Nat.pow_succ, Nat.mul_comm (1000000000 ^ sz)]; exact (Nat.div_lt_iff_lt_mul (pB_pos sz)).mp hlt
          exact W.vret hx hb hr (fun t9 ht9 hW9 => ⟨⟨[(q, .inr (0, [.ref pa, .int (iI (((sz : Int)) + (1)))])), (pa, .inl (cI, 306, .inl (upd g (i) ((iI (cy))))))], rfl, ⟨upd g i (iI cy), sz + 1, rfl, by omega, hlt2, fun _ => by simpa using hge, by rw [hsz]; exact upd_lo hlo (by rw [hc, Nat.mod_eq_of_lt hlt, hcn])⟩, by rw [ht9]; exact hP, hD⟩, hS.F ht9⟩) hS.2.2 d_Na_times_97
    · skip
      refine ed_pc (pc' := 14) rfl ?_
      obtain ⟨di, hdi⟩ : ∃ di : Nat, di = V / 1000000000 ^ i % 1000000000 := ⟨_, rfl⟩
      have hd1 : di < 1000000000 := by rw [hdi]; exact nb_lt V i
      have hcs : cn < F := by rw [hcn]; exact tm_small (by decide) hF.1
      obtain ⟨pr, hpr⟩ : ∃ pr : Nat, pr = di * F + cn := ⟨_, rfl⟩
      have hprb : di * F ≤ 999999999 * 999999999 := Nat.mul_le_mul (by omega) (by omega)
      have hpi : (pr : Int) = (di : Int) * (F : Int) + (cn : Int) := by rw [hpr]; simp
      have hdg : pr % 1000000000 = V * F / 1000000000 ^ i % 1000000000 := by rw [hpr, hdi, hcn]; exact tm_digit (by decide) V F i
      refine lv_aload_n hx hb d_Na_times_14 rfl (lv_at hl 0 rfl) ?_
      refine va_get (D := D) (ci := 0) (v := .ref pa) (C := R_Na) (T := T_Na) (N := 2) hx hb hts (fun w h => List.mem_cons_of_mem _ (in_Na w h)) hown hK hP 0 rfl rfl 0 (by decide) (hts _ (List.mem_cons_of_mem _ tw_31)) (fun _ h9 => h9) rfl d_Na_times_15 ?_
      refine lv_iload hx hb d_Na_times_18 (lv_at hl 2 rfl) ?_
      refine ed_pc (pc' := 20) rfl ?_
      refine ed_iald (y := (di : Int)) hx hb hK hP 1 1 rfl rfl (i) (by omega) (by omega) (by decide) (by rw [hdi]; exact hhi i (by omega) (by omega)) d_Na_times_20 ?_
      refine ed_i2l hx hb d_Na_times_21 (by omega) ?_
      refine lv_iload_n hx hb d_Na_times_22 rfl (lv_at hl 1 rfl) ?_
      refine ed_i2l hx hb d_Na_times_23 (by omega) ?_
      refine ed_lmul hx hb d_Na_times_24 ?_
      refine lv_lload_n hx hb d_Na_times_25 rfl (lv_at hl 3 rfl) ?_
      refine ed_ladd hx hb d_Na_times_26 ?_
      refine ed_tj (y := (pr : Int)) (by rw [hpi, hc]) ?_
      refine lv_lstore hx hb d_Na_times_27 hl (by decide) rfl (fun ls hl => ?_)
      have hl : lv_has ls 7 [(5, .long (jI ((pr : Int)))), (0, .ref q), (1, .int (iI ((F : Int)))), (4, .int (iI (zi))), (2, .long (jI (cy)))] := hl
      refine ed_pc (pc' := 29) rfl ?_
      refine lv_lload hx hb d_Na_times_29 (lv_at hl 0 rfl) ?_
      refine lv_ldc2 (v := 1000000000) hx hb hown (hts _ (List.mem_cons_of_mem _ tw_65)) d_Na_times_31 ?_
      refine ed_tl (y := (jI (1000000000))) (by decide +kernel) ?_
      refine ed_ldiv hx hb d_Na_times_34 (by omega) (by omega) (by omega) ?_
      obtain ⟨cn2, hcy⟩ : ∃ cn2 : Nat, cn2 = pr / 1000000000 := ⟨_, rfl⟩
      refine ed_tj (y := (cn2 : Int)) (by omega) ?_
      refine lv_lstore_n hx hb d_Na_times_35 rfl hl (by decide) rfl (fun ls hl => ?_)
      have hl : lv_has ls 7 [(2, .long (jI ((cn2 : Int)))), (5, .long (jI ((pr : Int)))), (0, .ref q), (1, .int (iI ((F : Int)))), (4, .int (iI (zi)))] := hl
      refine lv_aload_n hx hb d_Na_times_36 rfl (lv_at hl 2 rfl) ?_
      refine va_get (D := D) (ci := 0) (v := .ref pa) (C := R_Na) (T := T_Na) (N := 2) hx hb hts (fun w h => List.mem_cons_of_mem _ (in_Na w h)) hown hK hP 0 rfl rfl 0 (by decide) (hts _ (List.mem_cons_of_mem _ tw_31)) (fun _ h9 => h9) rfl d_Na_times_37 ?_
      refine lv_iload hx hb d_Na_times_40 (lv_at hl 4 rfl) ?_
      refine lv_lload hx hb d_Na_times_42 (lv_at hl 1 rfl) ?_
      refine ed_pc (pc' := 44) rfl ?_
      refine lv_lload_n hx hb d_Na_times_44 rfl (lv_at hl 0 rfl) ?_
      refine lv_ldc2 (v := 1000000000) hx hb hown (hts _ (List.mem_cons_of_mem _ tw_65)) d_Na_times_45 ?_
      refine ed_tl (y := (jI (1000000000))) (by decide +kernel) ?_
      refine ed_lmul hx hb d_Na_times_48 ?_
      refine ed_lsub hx hb d_Na_times_49 ?_
      refine ed_l2i hx hb d_Na_times_50 ?_
      refine ed_tz (y := ((V * F / 1000000000 ^ i % 1000000000 : Nat) : Int)) (by rw [← hdg]; omega) ?_
      refine ed_iast hx hb hK hP hD hS 1 1 rfl rfl (i) (by omega) (by omega) (by decide) d_Na_times_51 (fun H locs hP hD hS => ?_)
      have hP : va_P D ecl [(q, .inr (0, [.ref pa, .int (iI ((sz : Int)))])), (pa, .inl (cI, 306, .inl (upd g (i) ((iI (((V * F / 1000000000 ^ i % 1000000000 : Nat) : Int)))))))] H := hP
      have hD : va_D A [(q, .inr (0, [.ref pa, .int (iI ((sz : Int)))])), (pa, .inl (cI, 306, .inl (upd g (i) ((iI (((V * F / 1000000000 ^ i % 1000000000 : Nat) : Int)))))))] := hD
      refine lv_iinc (k := 4) (v := iI (zi + 1)) hx hb d_Na_times_52 hl rfl (iI_add _ _) (by decide) rfl (fun ls hl => ?_)
      have hl : lv_has ls 7 [(4, .int (iI (zi + 1))), (2, .long (jI ((cn2 : Int)))), (5, .long (jI ((pr : Int)))), (0, .ref q), (1, .int (iI ((F : Int))))] := hl
      refine lv_goto (tgt := 5) hx hb d_Na_times_55 rfl ?_
      have hl := lv_sub hl [3, 4, 0, 1] rfl
      exact ih _ (by omega) (i + 1) (upd g i (iI ((V * F / 1000000000 ^ i % 1000000000 : Nat) : Int))) (cn2) _ _ ls H locs rfl (by omega) (rfl) (by rw [hcy, hpr, hdi, hcn, tm_carry (by decide)]) (by omega) (upd_lo hlo rfl) (upd_hi hhi) hl hP hD hS
  refine lv_lconst (v := jI 0) hx hb d_Na_times_0 (by decide +kernel) ?_
  refine lv_lstore_n hx hb d_Na_times_1 rfl hl (by decide) rfl (fun ls hl => ?_)
  have hl : lv_has ls 7 [(2, .long (jI (0))), (0, .ref q), (1, .int (iI ((F : Int))))] := hl
  refine lv_iconst (v := iI 0) hx hb d_Na_times_2 rfl ?_
  refine lv_istore hx hb d_Na_times_3 hl (by decide) rfl (fun ls hl => ?_)
  have hl : lv_has ls 7 [(4, .int (iI (0))), (2, .long (jI (0))), (0, .ref q), (1, .int (iI ((F : Int))))] := hl
  have hl := lv_sub hl [2, 3, 0, 1] rfl
  exact L5 _ (0) (f) (0) _ _ ls s.heap [] rfl (rfl) (rfl) (by simp [Nat.mod_one]) (by omega) (fun j hj => absurd hj (by omega)) (fun j _ h2 => hV4 j h2) hl hP hD hS
end
section
set_option maxHeartbeats 4000000 in
set_option maxRecDepth 100000 in
/-- setUnsigned(V) -/
theorem c_Na_setUnsigned (l : Launch) (D : va_G) (cB cI cJ : ClassId) (t5 : Nat) (ad : Nat → Nat) (q pa : Nat) (f : Nat → Int32) (z0 : Int) (V : Nat) (hV : V < 2 ^ 64) : c_V l m_Na_setUnsigned (Cond.code m_Na_setUnsigned b_Na_setUnsigned 7 none :: gw) (rm_ 0 0) (eX t5 ad) D ecl (tyS cB cI cJ) [.ref q, .long (lN V)] [(q, .inr (0, [.ref pa, .int (iI (z0))])), (pa, .inl (cI, 306, .inl f))] (fun u => ∃ (f' : Nat → Int32) (sz' : Nat), u = [(q, .inr (0, [.ref pa, .int (iI ((sz' : Int)))])), (pa, .inl (cI, 306, .inl f'))] ∧ nt_ok f' sz' V) 0 0 := by
  intro sz0
  refine Met.ofW (cc := b_Na_setUnsigned) (maxL := 7) (ret := none) (by decide) rfl ?_
  intro p e s m args below meth c s₁ B hml hv
  obtain ⟨rfl, hsz, hP, hK, hD0, hE⟩ := hv
  have hx := B.exec
  have hb := B.bytes
  have hr := B.returns
  have hts := atoms_spec (ws := Cond.code m_Na_setUnsigned b_Na_setUnsigned 7 none :: gw) B.pre
  have hown : s.vm.findClass R_Na = some m.cls := findClass_of_methodNamed B.named
  have hlocks := B.notSynchronized
  subst hsz
  have hD := hD0.self (sz := s.heap.size)
  generalize hAe : va_A [(q, .inr (0, [.ref pa, .int (iI (z0))])), (pa, .inl (cI, 306, .inl f))] s.heap.size = A at hD hE ⊢
  have hA : ∀ q : Nat, s.heap.size ≤ q → A q := fun q h => by rw [← hAe]; exact Or.inr h
  have hS : va_S A s.heap s.heap [] := va_S.rf
  have hl := lv_entry ([.ref q, .long (lN V)]) (n := 7) (Nat.le_of_ble_eq_true rfl)
  rw [lg_entry_eq]
  generalize (lg_sl ([.ref q, .long (lN V)]) ++ List.replicate (7 - (lg_sl ([.ref q, .long (lN V)])).length) Slot.unset).toArray = ls at hl ⊢
  have hl : lv_has ls 7 [(0, .ref q), (1, .long (lN V))] := hl
  have L7 : ∀ (n9 : Nat) (k : Nat) (g : Nat → Int32) (r : Nat) (zk : Int) (rv : Int64) (ls : Array Slot) (H : Heap) (locs : List Loc), 3 - k = n9 → (zk = (k : Int)) → (rv = lN r) → (r = V / 1000000000 ^ k) → (k ≤ 3) → ((∀ j, j < k → g j = iI ((V / 1000000000 ^ j % 1000000000 : Nat) : Int))) → ((0 < k → 1000000000 ^ (k - 1) ≤ V)) → lv_has ls 7 [(0, .ref q), (3, .long (rv))] → va_P D ecl [(q, .inr (0, [.ref pa, .int (iI (zk))])), (pa, .inl (cI, 306, .inl g))] H → va_D A [(q, .inr (0, [.ref pa, .int (iI (zk))])), (pa, .inl (cI, 306, .inl g))] → va_S A s.heap H locs → W p l e (headSpec (Cond.code m_Na_setUnsigned b_Na_setUnsigned 7 none :: gw) (rm_ 0 0)).room s m ([.ref q, .long (lN V)] : List Value).toArray below meth c H locs 0 0 (MQ below (va_Qv (fun u => ∃ (f' : Nat → Int32) (sz' : Nat), u = [(q, .inr (0, [.ref pa, .int (iI ((sz' : Int)))])), (pa, .inl (cI, 306, .inl f'))] ∧ nt_ok f' sz' V) (c_B D ecl A) A) ([.ref q, .long (lN V)] : List Value).toArray s 0 0 A) (F0 m 7 ls []) := by
    intro n9
    induction n9 using Nat.strongRecOn with
    | ind n9 ih =>
    intro k g r zk rv ls H locs hn9 hk hr0 hrr hk3 hlo hpo hl hP hD hS
    refine lv_lload_n hx hb d_Na_setUnsigned_7 rfl (lv_at hl 1 rfl) ?_
    refine lv_lconst (v := jI 0) hx hb d_Na_setUnsigned_8 (by decide +kernel) ?_
    refine ed_lifx_eq (tgt := 68) hx hb d_Na_setUnsigned_9 d_Na_setUnsigned_10 rfl (fun h_1 => ?_) (fun h_1 => ?_)
    · skip
      refine ed_pc (pc' := 68) rfl ?_
      have hr64 : r < 2 ^ 64 := by rw [hrr]; exact Nat.lt_of_le_of_lt (Nat.div_le_self _ _) hV
      have hrp : r = 0 := (lN_0 hr64).mp (hr0.symm.trans h_1)
      have hlt : V < 1000000000 ^ k := by
        rcases Nat.div_eq_zero_iff.mp (hrr.symm.trans hrp) with z | z
        · exact absurd z (Nat.ne_of_gt (pB_pos k))
        · exact z
      exact W.vret hx hb hr (fun t9 ht9 hW9 => ⟨⟨[(q, .inr (0, [.ref pa, .int (iI (zk))])), (pa, .inl (cI, 306, .inl g))], rfl, ⟨g, k, by rw [hk], by omega, hlt, hpo, hlo⟩, by rw [ht9]; exact hP, hD⟩, hS.F ht9⟩) hS.2.2 d_Na_setUnsigned_68
    · skip
      refine ed_pc (pc' := 13) rfl ?_
      have hr64 : r < 2 ^ 64 := by rw [hrr]; exact Nat.lt_of_le_of_lt (Nat.div_le_self _ _) hV
      have hrp : 0 < r := by rcases Nat.eq_zero_or_pos r with z | z; exact absurd (hr0.trans ((lN_0 hr64).mpr z)) h_1; exact z
      have hBV : 1000000000 ^ k ≤ V := by
        rcases Nat.lt_or_ge V (1000000000 ^ k) with z | z
        · rw [Nat.div_eq_of_lt z] at hrr; omega
        · exact z
      have hk2 : k < 3 := by
        rcases Nat.lt_or_ge k 3 with z | z
        · exact z
        · have : k = 3 := by omega
          rw [this] at hBV; omega
      refine lv_aload_n hx hb d_Na_setUnsigned_13 rfl (lv_at hl 0 rfl) ?_
      refine va_get (D := D) (ci := 0) (v := .int (iI (zk))) (C := R_Na) (T := T_Na) (N := 2) hx hb hts (fun w h => List.mem_cons_of_mem _ (in_Na w h)) hown hK hP 0 rfl rfl 1 (by decide) (hts _ (List.mem_cons_of_mem _ tw_32)) (fun _ h9 => h9) rfl d_Na_setUnsigned_14 ?_
      refine lv_aload_n hx hb d_Na_setUnsigned_17 rfl (lv_at hl 0 rfl) ?_
      refine va_get (D := D) (ci := 0) (v := .ref pa) (C := R_Na) (T := T_Na) (N := 2) hx hb hts (fun w h => List.mem_cons_of_mem _ (in_Na w h)) hown hK hP 0 rfl rfl 0 (by decide) (hts _ (List.mem_cons_of_mem _ tw_31)) (fun _ h9 => h9) rfl d_Na_setUnsigned_18 ?_
      refine ed_pc (pc' := 21) rfl ?_
      refine va_alen (v := iI 306) hx hb hK hP 1 1 rfl rfl rfl d_Na_setUnsigned_21 ?_
      refine ed_icmp_ge (tgt := 68) hx hb d_Na_setUnsigned_22 rfl (by omega) (by omega) (fun h_2 => ?_) (fun h_2 => ?_)
      · exact absurd h_2 (by omega)
      · skip
        refine ed_pc (pc' := 25) rfl ?_
        refine lv_lload_n hx hb d_Na_setUnsigned_25 rfl (lv_at hl 1 rfl) ?_
        refine lv_iconst (v := iI 1) hx hb d_Na_setUnsigned_26 rfl ?_
        refine lv_lushr (v := (jI (((r / 2 : Nat) : Int)))) hx hb d_Na_setUnsigned_27 (by rw [hr0]; exact (wb_shr (k := 1) hr64 (by decide)).trans (jI_nat _).symm) ?_
        refine lv_ldc2 (v := 500000000) hx hb hown (hts _ (List.mem_cons_of_mem _ tw_64)) d_Na_setUnsigned_28 ?_
        refine ed_tl (y := (jI (500000000))) (by decide +kernel) ?_
        refine ed_ldiv hx hb d_Na_setUnsigned_31 (by omega) (by omega) (by omega) ?_
        obtain ⟨ab, hab⟩ : ∃ ab : Nat, ab = r / 1000000000 := ⟨_, rfl⟩
        obtain ⟨lo, hlo2⟩ : ∃ lo : Nat, lo = r % 1000000000 := ⟨_, rfl⟩
        refine ed_tj (y := (ab : Int)) (by omega) ?_
        refine lv_lstore hx hb d_Na_setUnsigned_32 hl (by decide) rfl (fun ls hl => ?_)
        have hl : lv_has ls 7 [(5, .long (jI ((ab : Int)))), (0, .ref q), (3, .long (rv))] := hl
        refine ed_pc (pc' := 34) rfl ?_
        refine lv_aload_n hx hb d_Na_setUnsigned_34 rfl (lv_at hl 1 rfl) ?_
        refine va_get (D := D) (ci := 0) (v := .ref pa) (C := R_Na) (T := T_Na) (N := 2) hx hb hts (fun w h => List.mem_cons_of_mem _ (in_Na w h)) hown hK hP 0 rfl rfl 0 (by decide) (hts _ (List.mem_cons_of_mem _ tw_31)) (fun _ h9 => h9) rfl d_Na_setUnsigned_35 ?_
        refine lv_aload_n hx hb d_Na_setUnsigned_38 rfl (lv_at hl 1 rfl) ?_
        refine va_get (D := D) (ci := 0) (v := .int (iI (zk))) (C := R_Na) (T := T_Na) (N := 2) hx hb hts (fun w h => List.mem_cons_of_mem _ (in_Na w h)) hown hK hP 0 rfl rfl 1 (by decide) (hts _ (List.mem_cons_of_mem _ tw_32)) (fun _ h9 => h9) rfl d_Na_setUnsigned_39 ?_
        refine lv_lload_n hx hb d_Na_setUnsigned_42 rfl (lv_at hl 2 rfl) ?_
        refine lv_lload hx hb d_Na_setUnsigned_43 (lv_at hl 0 rfl) ?_
        refine lv_ldc2 (v := 1000000000) hx hb hown (hts _ (List.mem_cons_of_mem _ tw_65)) d_Na_setUnsigned_45 ?_
        refine ed_tl (y := (jI (1000000000))) (by decide +kernel) ?_
        refine ed_lmul hx hb d_Na_setUnsigned_48 ?_
        refine ed_pc (pc' := 49) rfl ?_
        refine lv_lsub hx hb d_Na_setUnsigned_49 ?_
        refine ed_tl (y := (jI ((lo : Int)))) (by rw [hr0, ← jI_nat, jI_sub]; congr 1; omega) ?_
        refine ed_l2i hx hb d_Na_setUnsigned_50 ?_
        refine ed_iast hx hb hK hP hD hS 1 1 rfl rfl (k) (by omega) (by omega) (by decide) d_Na_setUnsigned_51 (fun H locs hP hD hS => ?_)
        have hP : va_P D ecl [(q, .inr (0, [.ref pa, .int (iI (zk))])), (pa, .inl (cI, 306, .inl (upd g (k) ((iI ((lo : Int)))))))] H := hP
        have hD : va_D A [(q, .inr (0, [.ref pa, .int (iI (zk))])), (pa, .inl (cI, 306, .inl (upd g (k) ((iI ((lo : Int)))))))] := hD
        refine lv_lload hx hb d_Na_setUnsigned_52 (lv_at hl 0 rfl) ?_
        refine lv_lstore_n hx hb d_Na_setUnsigned_54 rfl hl (by decide) rfl (fun ls hl => ?_)
        have hl : lv_has ls 7 [(3, .long (jI ((ab : Int)))), (5, .long (jI ((ab : Int)))), (0, .ref q)] := hl
        refine lv_aload_n hx hb d_Na_setUnsigned_55 rfl (lv_at hl 2 rfl) ?_
        refine lv_dup hx hb d_Na_setUnsigned_56 rfl ?_
        refine va_get (D := D) (ci := 0) (v := .int (iI (zk))) (C := R_Na) (T := T_Na) (N := 2) hx hb hts (fun w h => List.mem_cons_of_mem _ (in_Na w h)) hown hK hP 0 rfl rfl 1 (by decide) (hts _ (List.mem_cons_of_mem _ tw_32)) (fun _ h9 => h9) rfl d_Na_setUnsigned_57 ?_
        refine ed_pc (pc' := 60) rfl ?_
        refine lv_iconst (v := iI 1) hx hb d_Na_setUnsigned_60 rfl ?_
        refine ed_iadd hx hb d_Na_setUnsigned_61 ?_
        refine va_put (D := D) (ci := 0) (v := .int (iI ((zk) + (1)))) (ty := .int) (C := R_Na) (T := T_Na) (N := 2) hx hb hts (fun w h => List.mem_cons_of_mem _ (in_Na w h)) y_Na t_Na n_Na hown hK hP hD hS 0 rfl rfl 1 (by decide) (hts _ (List.mem_cons_of_mem _ tw_32)) (fun _ h9 => h9) rfl (by decide +kernel) rfl rfl (Nat.le_of_ble_eq_true rfl) d_Na_setUnsigned_62 (fun H locs hP hD hS => ?_)
        have hP : va_P D ecl [(q, .inr (0, [.ref pa, .int (iI ((zk) + (1)))])), (pa, .inl (cI, 306, .inl (upd g (k) ((iI ((lo : Int)))))))] H := hP
        have hD : va_D A [(q, .inr (0, [.ref pa, .int (iI ((zk) + (1)))])), (pa, .inl (cI, 306, .inl (upd g (k) ((iI ((lo : Int)))))))] := hD
        refine lv_goto (tgt := 7) hx hb d_Na_setUnsigned_65 rfl ?_
        have hl := lv_sub hl [2, 0] rfl
        exact ih _ (by omega) (k + 1) (upd g k (iI (lo : Int))) (ab) _ _ ls H locs rfl (by omega) (jI_nat _) (by rw [hab, hrr, Nat.div_div_eq_div_mul, ← Nat.pow_succ]) (by omega) (upd_lo hlo (by rw [hlo2, hrr])) (fun _ => hBV) hl hP hD hS
  refine lv_lload_n hx hb d_Na_setUnsigned_0 rfl (lv_at hl 1 rfl) ?_
  refine lv_lstore_n hx hb d_Na_setUnsigned_1 rfl hl (by decide) rfl (fun ls hl => ?_)
  have hl : lv_has ls 7 [(3, .long (lN V)), (0, .ref q), (1, .long (lN V))] := hl
  refine lv_aload_n hx hb d_Na_setUnsigned_2 rfl (lv_at hl 1 rfl) ?_
  refine lv_iconst (v := iI 0) hx hb d_Na_setUnsigned_3 rfl ?_
  refine va_put (D := D) (ci := 0) (v := .int (iI (0))) (ty := .int) (C := R_Na) (T := T_Na) (N := 2) hx hb hts (fun w h => List.mem_cons_of_mem _ (in_Na w h)) y_Na t_Na n_Na hown hK hP hD hS 0 rfl rfl 1 (by decide) (hts _ (List.mem_cons_of_mem _ tw_32)) (fun _ h9 => h9) rfl (by decide +kernel) rfl rfl (Nat.le_of_ble_eq_true rfl) d_Na_setUnsigned_4 (fun H locs hP hD hS => ?_)
  have hP : va_P D ecl [(q, .inr (0, [.ref pa, .int (iI (0))])), (pa, .inl (cI, 306, .inl f))] H := hP
  have hD : va_D A [(q, .inr (0, [.ref pa, .int (iI (0))])), (pa, .inl (cI, 306, .inl f))] := hD
  have hl := lv_sub hl [1, 0] rfl
  exact L7 _ (0) (f) (V) _ _ ls H locs rfl (rfl) (rfl) (by simp) (by omega) (fun j hj => absurd hj (by omega)) (fun h => absurd h (by omega)) hl hP hD hS
set_option maxHeartbeats 4000000 in
set_option maxRecDepth 100000 in
/-- length() -/
theorem c_Na_length (l : Launch) (D : va_G) (cB cI cJ : ClassId) (t5 : Nat) (ad : Nat → Nat) (q pa : Nat) (f : Nat → Int32) (sz V : Nat) (hV : nt_ok f sz V) : c_I l m_Na_length (Cond.code m_Na_length b_Na_length 3 (some .int) :: gw) (rm_ 0 0) (eX t5 ad) D ecl (tyS cB cI cJ) [.ref q] [(q, .inr (0, [.ref pa, .int (iI ((sz : Int)))])), (pa, .inl (cI, 306, .inl f))] (fun r u => r = iI ((dl V : Nat) : Int) ∧ u = [(q, .inr (0, [.ref pa, .int (iI ((sz : Int)))])), (pa, .inl (cI, 306, .inl f))]) 0 0 := by
  intro sz0
  refine Met.ofW (cc := b_Na_length) (maxL := 3) (ret := (some .int)) (by decide) rfl ?_
  intro p e s m args below meth c s₁ B hml hv
  obtain ⟨rfl, hsz, hP, hK, hD0, hE⟩ := hv
  have hx := B.exec
  have hb := B.bytes
  have hr := B.returns
  have hts := atoms_spec (ws := Cond.code m_Na_length b_Na_length 3 (some .int) :: gw) B.pre
  have hown : s.vm.findClass R_Na = some m.cls := findClass_of_methodNamed B.named
  have hlocks := B.notSynchronized
  subst hsz
  have hD := hD0.self (sz := s.heap.size)
  generalize hAe : va_A [(q, .inr (0, [.ref pa, .int (iI ((sz : Int)))])), (pa, .inl (cI, 306, .inl f))] s.heap.size = A at hD hE ⊢
  have hA : ∀ q : Nat, s.heap.size ≤ q → A q := fun q h => by rw [← hAe]; exact Or.inr h
  have hS : va_S A s.heap s.heap [] := va_S.rf
  have hl := lv_entry ([.ref q]) (n := 3) (Nat.le_of_ble_eq_true rfl)
  rw [lg_entry_eq]
  generalize (lg_sl ([.ref q]) ++ List.replicate (3 - (lg_sl ([.ref q])).length) Slot.unset).toArray = ls at hl ⊢
  have hl : lv_has ls 3 [(0, .ref q)] := hl
  have hz := nt_zero hV
  have hV0 := hV
  obtain ⟨hV1, hV2, hV3, hV4⟩ := hV
  have hdl : dl V ≤ 2754 := by
    apply dl_bound
    rw [pB_10] at hV2
    exact Nat.lt_of_lt_of_le hV2 (p10_le (by omega))
  have L31 : ∀ (n9 : Nat) (x : Nat) (zl : Int) (zx : Int) (ls : Array Slot) (H : Heap) (locs : List Loc), x = n9 → (zx = (x : Int)) → (zl + ((dl x : Nat) : Int) = ((dl V : Nat) : Int)) → (x < 1000000000) → lv_has ls 3 [(0, .ref q), (1, .int (iI (zl))), (2, .int (iI (zx)))] → va_P D ecl [(q, .inr (0, [.ref pa, .int (iI ((sz : Int)))])), (pa, .inl (cI, 306, .inl f))] H → va_D A [(q, .inr (0, [.ref pa, .int (iI ((sz : Int)))])), (pa, .inl (cI, 306, .inl f))] → va_S A s.heap H locs → W p l e (headSpec (Cond.code m_Na_length b_Na_length 3 (some .int) :: gw) (rm_ 0 0)).room s m ([.ref q] : List Value).toArray below meth c H locs 0 0 (MQ below (va_Qi (fun r u => r = iI ((dl V : Nat) : Int) ∧ u = [(q, .inr (0, [.ref pa, .int (iI ((sz : Int)))])), (pa, .inl (cI, 306, .inl f))]) (c_B D ecl A) A) ([.ref q] : List Value).toArray s 0 0 A) (F0 m 31 ls []) := by
    intro n9
    induction n9 using Nat.strongRecOn with
    | ind n9 ih =>
    intro x zl zx ls H locs hn9 hzx hzl hx9 hl hP hD hS
    refine lv_iload_n hx hb d_Na_length_31 rfl (lv_at hl 2 rfl) ?_
    refine ed_if_le (tgt := 46) hx hb d_Na_length_32 rfl (by omega) (fun h_1 => ?_) (fun h_1 => ?_)
    · skip
      refine ed_pc (pc' := 46) rfl ?_
      refine lv_iload_n hx hb d_Na_length_46 rfl (lv_at hl 1 rfl) ?_
      have hx0 : x = 0 := by omega
      rw [hx0, dl_0] at hzl
      refine ed_tz (y := ((dl V : Nat) : Int)) (by omega) ?_
      exact W.iret (v := (iI (((dl V : Nat) : Int)))) hx hb hr (fun t9 ht9 hW9 => ⟨⟨(iI (((dl V : Nat) : Int))), [(q, .inr (0, [.ref pa, .int (iI ((sz : Int)))])), (pa, .inl (cI, 306, .inl f))], rfl, ⟨rfl, rfl⟩, by rw [ht9]; exact hP, hD⟩, hS.F ht9⟩) hS.2.2 d_Na_length_47
    · skip
      refine ed_pc (pc' := 35) rfl ?_
      refine lv_iinc (k := 1) (v := iI (zl + 1)) hx hb d_Na_length_35 hl rfl (iI_add _ _) (by decide) rfl (fun ls hl => ?_)
      have hl : lv_has ls 3 [(1, .int (iI (zl + 1))), (0, .ref q), (2, .int (iI (zx)))] := hl
      refine lv_iload_n hx hb d_Na_length_38 rfl (lv_at hl 2 rfl) ?_
      refine lv_bipush (v := iI 10) hx hb d_Na_length_39 (by decide +kernel) ?_
      refine ed_idiv hx hb d_Na_length_41 (by omega) (by omega) (by omega) ?_
      refine lv_istore_n hx hb d_Na_length_42 rfl hl (by decide) rfl (fun ls hl => ?_)
      have hl : lv_has ls 3 [(2, .int (iI ((zx) / (10)))), (1, .int (iI (zl + 1))), (0, .ref q)] := hl
      refine ed_pc (pc' := 43) rfl ?_
      refine lv_goto (tgt := 31) hx hb d_Na_length_43 rfl ?_
      have hl := lv_sub hl [2, 1, 0] rfl
      exact ih _ (by omega) (x / 10) _ _ ls H locs rfl (by omega) (by rw [dl_s (by omega)] at hzl; omega) (by omega) hl hP hD hS
  refine lv_aload_n hx hb d_Na_length_0 rfl (lv_at hl 0 rfl) ?_
  refine va_get (D := D) (ci := 0) (v := .int (iI ((sz : Int)))) (C := R_Na) (T := T_Na) (N := 2) hx hb hts (fun w h => List.mem_cons_of_mem _ (in_Na w h)) hown hK hP 0 rfl rfl 1 (by decide) (hts _ (List.mem_cons_of_mem _ tw_32)) (fun _ h9 => h9) rfl d_Na_length_1 ?_
  refine ed_if_ne (tgt := 9) hx hb d_Na_length_4 rfl (by omega) (fun h_2 => ?_) (fun h_2 => ?_)
  · skip
    refine ed_pc (pc' := 9) rfl ?_
    refine lv_aload_n hx hb d_Na_length_9 rfl (lv_at hl 0 rfl) ?_
    refine va_get (D := D) (ci := 0) (v := .int (iI ((sz : Int)))) (C := R_Na) (T := T_Na) (N := 2) hx hb hts (fun w h => List.mem_cons_of_mem _ (in_Na w h)) hown hK hP 0 rfl rfl 1 (by decide) (hts _ (List.mem_cons_of_mem _ tw_32)) (fun _ h9 => h9) rfl d_Na_length_10 ?_
    refine lv_iconst (v := iI 1) hx hb d_Na_length_13 rfl ?_
    refine ed_isub hx hb d_Na_length_14 ?_
    refine ed_pc (pc' := 15) rfl ?_
    refine lv_bipush (v := iI 9) hx hb d_Na_length_15 (by decide +kernel) ?_
    refine ed_imul hx hb d_Na_length_17 ?_
    refine lv_istore_n hx hb d_Na_length_18 rfl hl (by decide) rfl (fun ls hl => ?_)
    have hl : lv_has ls 3 [(1, .int (iI ((((sz : Int)) - (1)) * (9)))), (0, .ref q)] := hl
    refine lv_aload_n hx hb d_Na_length_19 rfl (lv_at hl 1 rfl) ?_
    refine va_get (D := D) (ci := 0) (v := .ref pa) (C := R_Na) (T := T_Na) (N := 2) hx hb hts (fun w h => List.mem_cons_of_mem _ (in_Na w h)) hown hK hP 0 rfl rfl 0 (by decide) (hts _ (List.mem_cons_of_mem _ tw_31)) (fun _ h9 => h9) rfl d_Na_length_20 ?_
    refine lv_aload_n hx hb d_Na_length_23 rfl (lv_at hl 1 rfl) ?_
    refine va_get (D := D) (ci := 0) (v := .int (iI ((sz : Int)))) (C := R_Na) (T := T_Na) (N := 2) hx hb hts (fun w h => List.mem_cons_of_mem _ (in_Na w h)) hown hK hP 0 rfl rfl 1 (by decide) (hts _ (List.mem_cons_of_mem _ tw_32)) (fun _ h9 => h9) rfl d_Na_length_24 ?_
    refine lv_iconst (v := iI 1) hx hb d_Na_length_27 rfl ?_
    refine ed_pc (pc' := 28) rfl ?_
    refine ed_isub hx hb d_Na_length_28 ?_
    refine ed_iald (y := ((V / 1000000000 ^ (sz - 1) : Nat) : Int)) hx hb hK hP 1 1 rfl rfl (sz - 1) (by omega) (by omega) (by decide) (by rw [hV4 (sz - 1) (by omega), (nt_top hV0 (by omega)).1]) d_Na_length_29 ?_
    refine lv_istore_n hx hb d_Na_length_30 rfl hl (by decide) rfl (fun ls hl => ?_)
    have hl : lv_has ls 3 [(2, .int (iI (((V / 1000000000 ^ (sz - 1) : Nat) : Int)))), (1, .int (iI ((((sz : Int)) - (1)) * (9)))), (0, .ref q)] := hl
    have hl := lv_sub hl [2, 1, 0] rfl
    exact L31 _ (V / 1000000000 ^ (sz - 1)) _ _ ls s.heap [] rfl (rfl) (by rw [nt_len hV0 (by omega)]; omega) (by have := nb_lt V (sz - 1); rw [(nt_top hV0 (by omega)).1] at this; exact this) hl hP hD hS
  · skip
    refine ed_pc (pc' := 7) rfl ?_
    refine lv_iconst (v := iI 0) hx hb d_Na_length_7 rfl ?_
    have h0 : V = 0 := hz.mp (by omega)
    refine ed_tz (y := ((dl V : Nat) : Int)) (by rw [h0, dl_0]; rfl) ?_
    exact W.iret (v := (iI (((dl V : Nat) : Int)))) hx hb hr (fun t9 ht9 hW9 => ⟨⟨(iI (((dl V : Nat) : Int))), [(q, .inr (0, [.ref pa, .int (iI ((sz : Int)))])), (pa, .inl (cI, 306, .inl f))], rfl, ⟨rfl, rfl⟩, by rw [ht9]; exact hP, hD⟩, hS.F ht9⟩) hS.2.2 d_Na_length_8
end
section
set_option maxHeartbeats 4000000 in
set_option maxRecDepth 100000 in
/-- setDigits(row, n) -/
theorem c_Na_setDigits (l : Launch) (D : va_G) (cB cI cJ : ClassId) (t5 : Nat) (ad : Nat → Nat) (q pa pr : Nat) (f g : Nat → Int32) (z0 : Int) (n X : Nat) (hn : n ≤ 1200) (hX1 : X < 10 ^ n) (hX2 : 0 < n → 10 ^ (n - 1) ≤ X) (hg : dg_ok g n X) : c_V l m_Na_setDigits (Cond.code m_Na_setDigits b_Na_setDigits 6 none :: gw) (rm_ 0 0) (eX t5 ad) D ecl (tyS cB cI cJ) [.ref q, .ref pr, .int (iI ((n : Int)))] [(q, .inr (0, [.ref pa, .int (iI (z0))])), (pa, .inl (cI, 306, .inl f)), (pr, .inl (cB, 1200, .inl g))] (fun u => ∃ (f' : Nat → Int32) (sz' : Nat), u = [(q, .inr (0, [.ref pa, .int (iI ((sz' : Int)))])), (pa, .inl (cI, 306, .inl f')), (pr, .inl (cB, 1200, .inl g))] ∧ nt_ok f' sz' X) 0 0 := by
  intro sz0
  refine Met.ofW (cc := b_Na_setDigits) (maxL := 6) (ret := none) (by decide) rfl ?_
  intro p e s m args below meth c s₁ B hml hv
  obtain ⟨rfl, hsz, hP, hK, hD0, hE⟩ := hv
  have hx := B.exec
  have hb := B.bytes
  have hr := B.returns
  have hts := atoms_spec (ws := Cond.code m_Na_setDigits b_Na_setDigits 6 none :: gw) B.pre
  have hown : s.vm.findClass R_Na = some m.cls := findClass_of_methodNamed B.named
  have hlocks := B.notSynchronized
  subst hsz
  have hD := hD0.self (sz := s.heap.size)
  generalize hAe : va_A [(q, .inr (0, [.ref pa, .int (iI (z0))])), (pa, .inl (cI, 306, .inl f)), (pr, .inl (cB, 1200, .inl g))] s.heap.size = A at hD hE ⊢
  have hA : ∀ q : Nat, s.heap.size ≤ q → A q := fun q h => by rw [← hAe]; exact Or.inr h
  have hS : va_S A s.heap s.heap [] := va_S.rf
  have hl := lv_entry ([.ref q, .ref pr, .int (iI ((n : Int)))]) (n := 6) (Nat.le_of_ble_eq_true rfl)
  rw [lg_entry_eq]
  generalize (lg_sl ([.ref q, .ref pr, .int (iI ((n : Int)))]) ++ List.replicate (6 - (lg_sl ([.ref q, .ref pr, .int (iI ((n : Int)))])).length) Slot.unset).toArray = ls at hl ⊢
  have hl : lv_has ls 6 [(0, .ref q), (1, .ref pr), (2, .int (iI ((n : Int))))] := hl
  have L18 : ∀ (n9 : Nat) (i : Nat) (h : Nat → Int32) (pn : Nat) (zi : Int) (zp : Int) (zs : Int) (ls : Array Slot) (H : Heap) (locs : List Loc), n - i = n9 → (zi = (i : Int)) → (zp = (pn : Int)) → (zs = (((n + 8) / 9 : Nat) : Int)) → (i ≤ n) → ((i < n → pn = X / 10 ^ (n - i) % 10 ^ (8 - (n - 1 - i) % 9))) → (pn < 1000000000) → ((∀ j, n - i ≤ 9 * j → j < (n + 8) / 9 → h j = iI ((X / 1000000000 ^ j % 1000000000 : Nat) : Int))) → lv_has ls 6 [(0, .ref q), (1, .ref pr), (2, .int (iI ((n : Int)))), (3, .int (iI (zp))), (4, .int (iI (zi)))] → va_P D ecl [(q, .inr (0, [.ref pa, .int (iI (zs))])), (pa, .inl (cI, 306, .inl h)), (pr, .inl (cB, 1200, .inl g))] H → va_D A [(q, .inr (0, [.ref pa, .int (iI (zs))])), (pa, .inl (cI, 306, .inl h)), (pr, .inl (cB, 1200, .inl g))] → va_S A s.heap H locs → W p l e (headSpec (Cond.code m_Na_setDigits b_Na_setDigits 6 none :: gw) (rm_ 0 0)).room s m ([.ref q, .ref pr, .int (iI ((n : Int)))] : List Value).toArray below meth c H locs 0 0 (MQ below (va_Qv (fun u => ∃ (f' : Nat → Int32) (sz' : Nat), u = [(q, .inr (0, [.ref pa, .int (iI ((sz' : Int)))])), (pa, .inl (cI, 306, .inl f')), (pr, .inl (cB, 1200, .inl g))] ∧ nt_ok f' sz' X) (c_B D ecl A) A) ([.ref q, .ref pr, .int (iI ((n : Int)))] : List Value).toArray s 0 0 A) (F0 m 18 ls []) := by
    intro n9
    induction n9 using Nat.strongRecOn with
    | ind n9 ih =>
    intro i h pn zi zp zs ls H locs hn9 hi hp hzs hin hpn hpb hpa hl hP hD hS
    refine lv_iload hx hb d_Na_setDigits_18 (lv_at hl 4 rfl) ?_
    refine lv_iload_n hx hb d_Na_setDigits_20 rfl (lv_at hl 2 rfl) ?_
    refine ed_icmp_ge (tgt := 69) hx hb d_Na_setDigits_21 rfl (by omega) (by omega) (fun h_1 => ?_) (fun h_1 => ?_)
    · skip
      refine ed_pc (pc' := 69) rfl ?_
      have hin2 : i = n := by omega
      exact W.vret hx hb hr (fun t9 ht9 hW9 => ⟨⟨[(q, .inr (0, [.ref pa, .int (iI (zs))])), (pa, .inl (cI, 306, .inl h)), (pr, .inl (cB, 1200, .inl g))], rfl, ⟨h, (n + 8) / 9, by rw [hzs], sd_g hn hX1 hX2 (fun j hj => hpa j (by omega) hj)⟩, by rw [ht9]; exact hP, hD⟩, hS.F ht9⟩) hS.2.2 d_Na_setDigits_69
    · skip
      refine ed_pc (pc' := 24) rfl ?_
      obtain ⟨dd, hdd⟩ : ∃ dd : Nat, dd = X / 10 ^ (n - 1 - i) % 10 := ⟨_, rfl⟩
      have hd9 : dd < 10 := by rw [hdd]; exact dg_lt _ _
      obtain ⟨p2, hp20⟩ : ∃ p2 : Nat, p2 = pn * 10 + dd := ⟨_, rfl⟩
      have hp2 : p2 = X / 10 ^ (n - 1 - i) % 10 ^ (9 - (n - 1 - i) % 9) := by rw [hp20, hpn (by omega), hdd]; exact sd_e (by omega)
      have hp2b : p2 < 1000000000 := by rw [hp2]; exact sd_f _ _
      refine lv_iload_n hx hb d_Na_setDigits_24 rfl (lv_at hl 2 rfl) ?_
      refine lv_iconst (v := iI 1) hx hb d_Na_setDigits_25 rfl ?_
      refine ed_isub hx hb d_Na_setDigits_26 ?_
      refine lv_iload hx hb d_Na_setDigits_27 (lv_at hl 4 rfl) ?_
      refine ed_pc (pc' := 29) rfl ?_
      refine ed_isub hx hb d_Na_setDigits_29 ?_
      refine ed_tz (y := ((n - 1 - i : Nat) : Int)) (by omega) ?_
      refine lv_istore hx hb d_Na_setDigits_30 hl (by decide) rfl (fun ls hl => ?_)
      have hl : lv_has ls 6 [(5, .int (iI (((n - 1 - i : Nat) : Int)))), (0, .ref q), (1, .ref pr), (2, .int (iI ((n : Int)))), (3, .int (iI (zp))), (4, .int (iI (zi)))] := hl
      refine lv_iload_n hx hb d_Na_setDigits_32 rfl (lv_at hl 4 rfl) ?_
      refine lv_bipush (v := iI 10) hx hb d_Na_setDigits_33 (by decide +kernel) ?_
      refine ed_imul hx hb d_Na_setDigits_35 ?_
      refine lv_aload_n hx hb d_Na_setDigits_36 rfl (lv_at hl 2 rfl) ?_
      refine lv_iload hx hb d_Na_setDigits_37 (lv_at hl 5 rfl) ?_
      refine ed_bald (y := (dd : Int)) hx hb hK hP 2 0 rfl rfl (i) (by omega) (by omega) (by decide) (by rw [hdd]; exact hg i (by omega)) d_Na_setDigits_39 ?_
      refine ed_pc (pc' := 40) rfl ?_
      refine ed_iadd hx hb d_Na_setDigits_40 ?_
      refine ed_tz (y := (p2 : Int)) (by rw [hp20, hp]; omega) ?_
      refine lv_istore_n hx hb d_Na_setDigits_41 rfl hl (by decide) rfl (fun ls hl => ?_)
      have hl : lv_has ls 6 [(3, .int (iI ((p2 : Int)))), (5, .int (iI (((n - 1 - i : Nat) : Int)))), (0, .ref q), (1, .ref pr), (2, .int (iI ((n : Int)))), (4, .int (iI (zi)))] := hl
      refine lv_iload hx hb d_Na_setDigits_42 (lv_at hl 1 rfl) ?_
      refine lv_bipush (v := iI 9) hx hb d_Na_setDigits_44 (by decide +kernel) ?_
      refine ed_irem hx hb d_Na_setDigits_46 (by omega) (by omega) (by omega) ?_
      refine ed_if_ne (tgt := 63) hx hb d_Na_setDigits_47 rfl (by omega) (fun h_2 => ?_) (fun h_2 => ?_)
      · skip
        refine ed_pc (pc' := 63) rfl ?_
        have h9 : ¬ (n - 1 - i) % 9 = 0 := by omega
        refine lv_iinc (k := 5) (v := iI (zi + 1)) hx hb d_Na_setDigits_63 hl rfl (iI_add _ _) (by decide) rfl (fun ls hl => ?_)
        have hl : lv_has ls 6 [(4, .int (iI (zi + 1))), (3, .int (iI ((p2 : Int)))), (5, .int (iI (((n - 1 - i : Nat) : Int)))), (0, .ref q), (1, .ref pr), (2, .int (iI ((n : Int))))] := hl
        refine lv_goto (tgt := 18) hx hb d_Na_setDigits_66 rfl ?_
        have hl := lv_sub hl [3, 4, 5, 1, 0] rfl
        exact ih _ (by omega) (i + 1) (h) (p2) _ _ _ ls H locs rfl (by omega) (rfl) (hzs) (by omega) (fun z => by rw [hp2]; exact sd_c (by omega) h9) (by omega) (sd_d hpa (by omega) h9) hl hP hD hS
      · skip
        refine ed_pc (pc' := 50) rfl ?_
        have h9 : (n - 1 - i) % 9 = 0 := by omega
        refine lv_aload_n hx hb d_Na_setDigits_50 rfl (lv_at hl 2 rfl) ?_
        refine va_get (D := D) (ci := 0) (v := .ref pa) (C := R_Na) (T := T_Na) (N := 2) hx hb hts (fun w h => List.mem_cons_of_mem _ (in_Na w h)) hown hK hP 0 rfl rfl 0 (by decide) (hts _ (List.mem_cons_of_mem _ tw_31)) (fun _ h9 => h9) rfl d_Na_setDigits_51 ?_
        refine ed_pc (pc' := 54) rfl ?_
        refine lv_iload hx hb d_Na_setDigits_54 (lv_at hl 1 rfl) ?_
        refine lv_bipush (v := iI 9) hx hb d_Na_setDigits_56 (by decide +kernel) ?_
        refine ed_idiv hx hb d_Na_setDigits_58 (by omega) (by omega) (by omega) ?_
        refine lv_iload_n hx hb d_Na_setDigits_59 rfl (lv_at hl 0 rfl) ?_
        refine ed_iast hx hb hK hP hD hS 1 1 rfl rfl ((n - 1 - i) / 9) (by omega) (by omega) (by decide) d_Na_setDigits_60 (fun H locs hP hD hS => ?_)
        have hP : va_P D ecl [(q, .inr (0, [.ref pa, .int (iI (zs))])), (pa, .inl (cI, 306, .inl (upd h ((n - 1 - i) / 9) ((iI ((p2 : Int))))))), (pr, .inl (cB, 1200, .inl g))] H := hP
        have hD : va_D A [(q, .inr (0, [.ref pa, .int (iI (zs))])), (pa, .inl (cI, 306, .inl (upd h ((n - 1 - i) / 9) ((iI ((p2 : Int))))))), (pr, .inl (cB, 1200, .inl g))] := hD
        refine lv_iconst (v := iI 0) hx hb d_Na_setDigits_61 rfl ?_
        refine lv_istore_n hx hb d_Na_setDigits_62 rfl hl (by decide) rfl (fun ls hl => ?_)
        have hl : lv_has ls 6 [(3, .int (iI (0))), (5, .int (iI (((n - 1 - i : Nat) : Int)))), (0, .ref q), (1, .ref pr), (2, .int (iI ((n : Int)))), (4, .int (iI (zi)))] := hl
        refine lv_iinc (k := 5) (v := iI (zi + 1)) hx hb d_Na_setDigits_63 hl rfl (iI_add _ _) (by decide) rfl (fun ls hl => ?_)
        have hl : lv_has ls 6 [(4, .int (iI (zi + 1))), (3, .int (iI (0))), (5, .int (iI (((n - 1 - i : Nat) : Int)))), (0, .ref q), (1, .ref pr), (2, .int (iI ((n : Int))))] := hl
        refine ed_pc (pc' := 66) rfl ?_
        refine lv_goto (tgt := 18) hx hb d_Na_setDigits_66 rfl ?_
        have hl := lv_sub hl [3, 4, 5, 1, 0] rfl
        exact ih _ (by omega) (i + 1) (upd h ((n - 1 - i) / 9) (iI (p2 : Int))) (0) _ _ _ ls H locs rfl (by omega) (rfl) (hzs) (by omega) (fun z => sd_a (by omega) (by omega)) (by omega) (sd_b hpa (by omega) h9 (by rw [hp2])) hl hP hD hS
  refine lv_iconst (v := iI 0) hx hb d_Na_setDigits_0 rfl ?_
  refine lv_istore_n hx hb d_Na_setDigits_1 rfl hl (by decide) rfl (fun ls hl => ?_)
  have hl : lv_has ls 6 [(3, .int (iI (0))), (0, .ref q), (1, .ref pr), (2, .int (iI ((n : Int))))] := hl
  refine lv_aload_n hx hb d_Na_setDigits_2 rfl (lv_at hl 1 rfl) ?_
  refine lv_iload_n hx hb d_Na_setDigits_3 rfl (lv_at hl 3 rfl) ?_
  refine lv_bipush (v := iI 9) hx hb d_Na_setDigits_4 (by decide +kernel) ?_
  refine ed_iadd hx hb d_Na_setDigits_6 ?_
  refine lv_iconst (v := iI 1) hx hb d_Na_setDigits_7 rfl ?_
  refine ed_pc (pc' := 8) rfl ?_
  refine ed_isub hx hb d_Na_setDigits_8 ?_
  refine lv_bipush (v := iI 9) hx hb d_Na_setDigits_9 (by decide +kernel) ?_
  refine ed_idiv hx hb d_Na_setDigits_11 (by omega) (by omega) (by omega) ?_
  refine ed_tz (y := (((n + 8) / 9 : Nat) : Int)) (by omega) ?_
  refine va_put (D := D) (ci := 0) (v := .int (iI ((((n + 8) / 9 : Nat) : Int)))) (ty := .int) (C := R_Na) (T := T_Na) (N := 2) hx hb hts (fun w h => List.mem_cons_of_mem _ (in_Na w h)) y_Na t_Na n_Na hown hK hP hD hS 0 rfl rfl 1 (by decide) (hts _ (List.mem_cons_of_mem _ tw_32)) (fun _ h9 => h9) rfl (by decide +kernel) rfl rfl (Nat.le_of_ble_eq_true rfl) d_Na_setDigits_12 (fun H locs hP hD hS => ?_)
  have hP : va_P D ecl [(q, .inr (0, [.ref pa, .int (iI ((((n + 8) / 9 : Nat) : Int)))])), (pa, .inl (cI, 306, .inl f)), (pr, .inl (cB, 1200, .inl g))] H := hP
  have hD : va_D A [(q, .inr (0, [.ref pa, .int (iI ((((n + 8) / 9 : Nat) : Int)))])), (pa, .inl (cI, 306, .inl f)), (pr, .inl (cB, 1200, .inl g))] := hD
  refine lv_iconst (v := iI 0) hx hb d_Na_setDigits_15 rfl ?_
  refine lv_istore hx hb d_Na_setDigits_16 hl (by decide) rfl (fun ls hl => ?_)
  have hl : lv_has ls 6 [(4, .int (iI (0))), (3, .int (iI (0))), (0, .ref q), (1, .ref pr), (2, .int (iI ((n : Int))))] := hl
  have hl := lv_sub hl [2, 3, 4, 1, 0] rfl
  exact L18 _ (0) (f) (0) _ _ _ ls H locs rfl (rfl) (rfl) (by omega) (by omega) (fun z => by rw [Nat.div_eq_of_lt (by rw [Nat.sub_zero]; exact hX1)]; simp) (by omega) (fun j h1 h2 => by omega) hl hP hD hS
end
section
set_option maxHeartbeats 4000000 in
set_option maxRecDepth 100000 in
/-- timesTwoTo(k) -/
theorem c_Na_timesTwoTo (l : Launch) (D : va_G) (cB cI cJ : ClassId) (t5 : Nat) (ad : Nat → Nat) (q pa : Nat) (f : Nat → Int32) (sz V : Nat) (k : Int) (hk : -100000 ≤ k ∧ k ≤ 100000) (hV : nt_ok f sz V) (hR : V * tw2 k < 1000000000 ^ 306) : c_I l m_Na_timesTwoTo (Cond.code m_Na_timesTwoTo b_Na_timesTwoTo 3 (some .int) :: gw) (rm_ 1 26) (eX t5 ad) D ecl (tyS cB cI cJ) [.ref q, .int (iI (k))] [(q, .inr (0, [.ref pa, .int (iI ((sz : Int)))])), (pa, .inl (cI, 306, .inl f))] (fun r u => r = iI (min k 0) ∧ ∃ (f' : Nat → Int32) (sz' : Nat), u = [(q, .inr (0, [.ref pa, .int (iI ((sz' : Int)))])), (pa, .inl (cI, 306, .inl f'))] ∧ nt_ok f' sz' (V * tw2 k)) 0 0 := by
  intro sz0
  refine Met.ofW (cc := b_Na_timesTwoTo) (maxL := 3) (ret := (some .int)) (by decide) rfl ?_
  intro p e s m args below meth c s₁ B hml hv
  obtain ⟨rfl, hsz, hP, hK, hD0, hE⟩ := hv
  have hx := B.exec
  have hb := B.bytes
  have hr := B.returns
  have hts := atoms_spec (ws := Cond.code m_Na_timesTwoTo b_Na_timesTwoTo 3 (some .int) :: gw) B.pre
  have hown : s.vm.findClass R_Na = some m.cls := findClass_of_methodNamed B.named
  have hlocks := B.notSynchronized
  subst hsz
  have hD := hD0.self (sz := s.heap.size)
  generalize hAe : va_A [(q, .inr (0, [.ref pa, .int (iI ((sz : Int)))])), (pa, .inl (cI, 306, .inl f))] s.heap.size = A at hD hE ⊢
  have hA : ∀ q : Nat, s.heap.size ≤ q → A q := fun q h => by rw [← hAe]; exact Or.inr h
  have hS : va_S A s.heap s.heap [] := va_S.rf
  have hl := lv_entry ([.ref q, .int (iI (k))]) (n := 3) (Nat.le_of_ble_eq_true rfl)
  rw [lg_entry_eq]
  generalize (lg_sl ([.ref q, .int (iI (k))]) ++ List.replicate (3 - (lg_sl ([.ref q, .int (iI (k))])).length) Slot.unset).toArray = ls at hl ⊢
  have hl : lv_has ls 3 [(0, .ref q), (1, .int (iI (k)))] := hl
  have L27 : ∀ (n9 : Nat) (left : Nat) (g : Nat → Int32) (s2 : Nat) (V2 : Nat) (zl : Int) (zs : Int) (ls : Array Slot) (H : Heap) (locs : List Loc), left = n9 → ((zl = (left : Int) ∨ (zl ≤ 0 ∧ left = 0))) → (-100000 ≤ zl) → ((left : Int) ≤ 100000) → (zs = (s2 : Int)) → (nt_ok g s2 V2) → (V2 * 5 ^ left = V * tw2 k) → lv_has ls 3 [(0, .ref q), (1, .int (iI (k))), (2, .int (iI (zl)))] → va_P D ecl [(q, .inr (0, [.ref pa, .int (iI (zs))])), (pa, .inl (cI, 306, .inl g))] H → va_D A [(q, .inr (0, [.ref pa, .int (iI (zs))])), (pa, .inl (cI, 306, .inl g))] → va_S A s.heap H locs → W p l e (headSpec (Cond.code m_Na_timesTwoTo b_Na_timesTwoTo 3 (some .int) :: gw) (rm_ 1 26)).room s m ([.ref q, .int (iI (k))] : List Value).toArray below meth c H locs 0 0 (MQ below (va_Qi (fun r u => r = iI (min k 0) ∧ ∃ (f' : Nat → Int32) (sz' : Nat), u = [(q, .inr (0, [.ref pa, .int (iI ((sz' : Int)))])), (pa, .inl (cI, 306, .inl f'))] ∧ nt_ok f' sz' (V * tw2 k)) (c_B D ecl A) A) ([.ref q, .int (iI (k))] : List Value).toArray s 0 0 A) (F0 m 27 ls []) := by
    intro n9
    induction n9 using Nat.strongRecOn with
    | ind n9 ih =>
    intro left g s2 V2 zl zs ls H locs hn9 hzl hzr hlk hzs hok hV2 hl hP hD hS
    refine lv_iload_n hx hb d_Na_timesTwoTo_27 rfl (lv_at hl 2 rfl) ?_
    refine ed_if_le (tgt := 51) hx hb d_Na_timesTwoTo_28 rfl (by omega) (fun h_1 => ?_) (fun h_1 => ?_)
    · skip
      refine ed_pc (pc' := 51) rfl ?_
      refine lv_iload_n hx hb d_Na_timesTwoTo_51 rfl (lv_at hl 1 rfl) ?_
      refine lv_iconst (v := iI 0) hx hb d_Na_timesTwoTo_52 rfl ?_
      refine ed_min hx hb (hml.trans hl.1.symm) hown (hts _ (List.mem_cons_of_mem _ tw_83)) (hts _ (List.mem_cons_of_mem _ tw_84)) (hts _ (List.mem_cons_of_mem _ tw_6)) (hts _ (List.mem_cons_of_mem _ tw_85)) (Nat.le_of_ble_eq_true rfl) (Nat.le_of_ble_eq_true rfl) (Nat.le_of_ble_eq_true rfl) (Nat.le_of_ble_eq_true rfl) (by omega) (by omega) d_Na_timesTwoTo_53 ?_
      have hl0 : left = 0 := by omega
      rw [hl0, Nat.pow_zero, Nat.mul_one] at hV2
      exact W.iret (v := (iI (min (k) (0)))) hx hb hr (fun t9 ht9 hW9 => ⟨⟨(iI (min (k) (0))), [(q, .inr (0, [.ref pa, .int (iI (zs))])), (pa, .inl (cI, 306, .inl g))], rfl, ⟨rfl, g, s2, by rw [hzs], by rw [← hV2]; exact hok⟩, by rw [ht9]; exact hP, hD⟩, hS.F ht9⟩) hS.2.2 d_Na_timesTwoTo_56
    · skip
      refine ed_pc (pc' := 31) rfl ?_
      subst hzs
      obtain ⟨mn, hmn⟩ : ∃ mn : Nat, mn = min left 12 := ⟨_, rfl⟩
      have hpw : 5 ^ mn ≤ 244140625 := Nat.le_trans (Nat.pow_le_pow_right (by decide) (show mn ≤ 12 by omega)) (by decide)
      have hpp : 0 < 5 ^ mn := Nat.pow_pos (by decide)
      have hrm : V2 * 5 ^ mn < 1000000000 ^ 306 := by
        refine Nat.lt_of_le_of_lt (Nat.mul_le_mul_left V2 (Nat.pow_le_pow_right (by decide) (show mn ≤ left by omega))) ?_
        rw [hV2]; exact hR
      refine lv_aload_n hx hb d_Na_timesTwoTo_31 rfl (lv_at hl 0 rfl) ?_
      refine va_gets hx hb hE.1 hS hown (hts _ (List.mem_cons_of_mem _ tw_126)) (fun _ h => h) d_Na_timesTwoTo_32 ?_
      refine lv_iload_n hx hb d_Na_timesTwoTo_35 rfl (lv_at hl 2 rfl) ?_
      refine lv_bipush (v := iI 12) hx hb d_Na_timesTwoTo_36 (by decide +kernel) ?_
      refine ed_min hx hb (hml.trans hl.1.symm) hown (hts _ (List.mem_cons_of_mem _ tw_83)) (hts _ (List.mem_cons_of_mem _ tw_84)) (hts _ (List.mem_cons_of_mem _ tw_6)) (hts _ (List.mem_cons_of_mem _ tw_85)) (Nat.le_of_ble_eq_true rfl) (Nat.le_of_ble_eq_true rfl) (Nat.le_of_ble_eq_true rfl) (Nat.le_of_ble_eq_true rfl) (by omega) (by omega) d_Na_timesTwoTo_38 ?_
      refine va_ti (v := .int (iI ((5 ^ mn : Nat) : Int))) hx hb hE.2.1 hS (iI_in (by omega) (by omega) (by decide)) (by rw [iI_clamp (by omega)]; congr 4; omega) d_Na_timesTwoTo_41 ?_
      have hok2 := hok
      refine c_fv (wc := [(q, .inr (0, [.ref pa, .int (iI ((s2 : Int)))])), (pa, .inl (cI, 306, .inl g))]) (wr := []) (va_runV (C := "ExactDigits$Natural") (As := [.int (iI (((5 ^ mn : Nat) : Int)))]) (rest := []) ⟨hx, hb, hml, hown, hts⟩ (c_Na_times l D cB cI cJ t5 ad q pa g s2 V2 (5 ^ mn) hok (⟨hpp, by omega⟩) (hrm) H.size) (cwV 1 hts (gV tw_122 tw_124 ts_3 tw_2 tw_125) rfl rfl rfl (by decide +kernel) ⟨Nat.le_of_ble_eq_true rfl, Nat.le_of_ble_eq_true rfl⟩) ⟨c_blind (eX_X t5 ad), va_recv (ci := 0) (q0 := 0) hK hP rfl rfl, fun U hU hW => c_pre (wc := [(q, .inr (0, [.ref pa, .int (iI ((s2 : Int)))])), (pa, .inl (cI, 306, .inl g))]) (eX_X t5 ad) hE hK hP hD hS hA [0, 1] rfl (by decide) U hU hW⟩ rfl rfl hl.1 rfl (lv_room (Nat.le_of_ble_eq_true rfl)) d_Na_timesTwoTo_42 ⟨Nat.le_of_ble_eq_true rfl, Nat.le_of_ble_eq_true rfl⟩) hP hD hS hA [0, 1] [] rfl rfl (by decide) (by decide) (fun u H locs hp hP hD hS => ?_)
      obtain ⟨f3, s3, rfl, hok3⟩ := hp
      have hP : va_P D ecl [(q, .inr (0, [.ref pa, .int (iI ((s3 : Int)))])), (pa, .inl (cI, 306, .inl f3))] H := hP
      have hD : va_D A [(q, .inr (0, [.ref pa, .int (iI ((s3 : Int)))])), (pa, .inl (cI, 306, .inl f3))] := hD
      refine ed_pc (pc' := 45) rfl ?_
      refine lv_iinc (k := 2) (v := iI (zl + (-12))) hx hb d_Na_timesTwoTo_45 hl rfl (iI_add _ _) (by decide) rfl (fun ls hl => ?_)
      have hl : lv_has ls 3 [(2, .int (iI (zl + (-12)))), (0, .ref q), (1, .int (iI (k)))] := hl
      refine lv_goto (tgt := 27) hx hb d_Na_timesTwoTo_48 rfl ?_
      have hl := lv_sub hl [1, 2, 0] rfl
      exact ih _ (by omega) (left - mn) (f3) (s3) (V2 * 5 ^ mn) _ _ ls H locs rfl (by omega) (by omega) (by omega) (rfl) (hok3) (by rw [← hV2, Nat.mul_assoc, ← Nat.pow_add]; congr 2; omega) hl hP hD hS
  have L2 : ∀ (n9 : Nat) (left : Nat) (g : Nat → Int32) (s2 : Nat) (V2 : Nat) (zl : Int) (zs : Int) (ls : Array Slot) (H : Heap) (locs : List Loc), left = n9 → ((zl = (left : Int) ∨ (zl ≤ 0 ∧ left = 0))) → (-100000 ≤ zl) → ((left : Int) ≤ 100000) → (zs = (s2 : Int)) → (nt_ok g s2 V2) → (V2 * 2 ^ left = V * tw2p k) → lv_has ls 3 [(0, .ref q), (1, .int (iI (k))), (2, .int (iI (zl)))] → va_P D ecl [(q, .inr (0, [.ref pa, .int (iI (zs))])), (pa, .inl (cI, 306, .inl g))] H → va_D A [(q, .inr (0, [.ref pa, .int (iI (zs))])), (pa, .inl (cI, 306, .inl g))] → va_S A s.heap H locs → W p l e (headSpec (Cond.code m_Na_timesTwoTo b_Na_timesTwoTo 3 (some .int) :: gw) (rm_ 1 26)).room s m ([.ref q, .int (iI (k))] : List Value).toArray below meth c H locs 0 0 (MQ below (va_Qi (fun r u => r = iI (min k 0) ∧ ∃ (f' : Nat → Int32) (sz' : Nat), u = [(q, .inr (0, [.ref pa, .int (iI ((sz' : Int)))])), (pa, .inl (cI, 306, .inl f'))] ∧ nt_ok f' sz' (V * tw2 k)) (c_B D ecl A) A) ([.ref q, .int (iI (k))] : List Value).toArray s 0 0 A) (F0 m 2 ls []) := by
    intro n9
    induction n9 using Nat.strongRecOn with
    | ind n9 ih =>
    intro left g s2 V2 zl zs ls H locs hn9 hzl hzr hlk hzs hok hV2 hl hP hD hS
    refine lv_iload_n hx hb d_Na_timesTwoTo_2 rfl (lv_at hl 2 rfl) ?_
    refine ed_if_le (tgt := 24) hx hb d_Na_timesTwoTo_3 rfl (by omega) (fun h_2 => ?_) (fun h_2 => ?_)
    · skip
      refine ed_pc (pc' := 24) rfl ?_
      have hl0 : left = 0 := by omega
      rw [hl0, Nat.pow_zero, Nat.mul_one] at hV2
      refine lv_iload_n hx hb d_Na_timesTwoTo_24 rfl (lv_at hl 1 rfl) ?_
      refine ed_ineg hx hb d_Na_timesTwoTo_25 ?_
      refine lv_istore_n hx hb d_Na_timesTwoTo_26 rfl hl (by decide) rfl (fun ls hl => ?_)
      have hl : lv_has ls 3 [(2, .int (iI (-(k)))), (0, .ref q), (1, .int (iI (k)))] := hl
      have hl := lv_sub hl [1, 2, 0] rfl
      exact L27 _ ((-k).toNat) (g) (s2) (V2) _ _ ls H locs rfl (by omega) (by omega) (by omega) (hzs) (hok) (by rw [hV2]; exact tw2_b V k) hl hP hD hS
    · skip
      refine ed_pc (pc' := 6) rfl ?_
      subst hzs
      obtain ⟨mn, hmn⟩ : ∃ mn : Nat, mn = min left 29 := ⟨_, rfl⟩
      have hpw : 2 ^ mn ≤ 536870912 := Nat.le_trans (Nat.pow_le_pow_right (by decide) (show mn ≤ 29 by omega)) (by decide)
      have hpp : 0 < 2 ^ mn := Nat.pow_pos (by decide)
      have hrm : V2 * 2 ^ mn < 1000000000 ^ 306 := by
        refine Nat.lt_of_le_of_lt (Nat.mul_le_mul_left V2 (Nat.pow_le_pow_right (by decide) (show mn ≤ left by omega))) ?_
        rw [hV2]; exact Nat.lt_of_le_of_lt (tw2_a V k) hR
      refine lv_aload_n hx hb d_Na_timesTwoTo_6 rfl (lv_at hl 0 rfl) ?_
      refine lv_iconst (v := iI 1) hx hb d_Na_timesTwoTo_7 rfl ?_
      refine lv_iload_n hx hb d_Na_timesTwoTo_8 rfl (lv_at hl 2 rfl) ?_
      refine lv_bipush (v := iI 29) hx hb d_Na_timesTwoTo_9 (by decide +kernel) ?_
      refine ed_min hx hb (hml.trans hl.1.symm) hown (hts _ (List.mem_cons_of_mem _ tw_83)) (hts _ (List.mem_cons_of_mem _ tw_84)) (hts _ (List.mem_cons_of_mem _ tw_6)) (hts _ (List.mem_cons_of_mem _ tw_85)) (Nat.le_of_ble_eq_true rfl) (Nat.le_of_ble_eq_true rfl) (Nat.le_of_ble_eq_true rfl) (Nat.le_of_ble_eq_true rfl) (by omega) (by omega) d_Na_timesTwoTo_11 ?_
      refine ed_tz (y := (mn : Int)) (by omega) ?_
      refine ed_pc (pc' := 14) rfl ?_
      refine lv_ishl hx hb d_Na_timesTwoTo_14 ?_
      refine ed_ti (y := (iI (((2 ^ mn : Nat) : Int)))) (by rw [iI_nat, iI_nat]; exact shl1 mn (by omega)) ?_
      have hok2 := hok
      refine c_fv (wc := [(q, .inr (0, [.ref pa, .int (iI ((s2 : Int)))])), (pa, .inl (cI, 306, .inl g))]) (wr := []) (va_runV (C := "ExactDigits$Natural") (As := [.int (iI (((2 ^ mn : Nat) : Int)))]) (rest := []) ⟨hx, hb, hml, hown, hts⟩ (c_Na_times l D cB cI cJ t5 ad q pa g s2 V2 (2 ^ mn) hok (⟨hpp, by omega⟩) (hrm) H.size) (cwV 1 hts (gV tw_122 tw_124 ts_3 tw_2 tw_125) rfl rfl rfl (by decide +kernel) ⟨Nat.le_of_ble_eq_true rfl, Nat.le_of_ble_eq_true rfl⟩) ⟨c_blind (eX_X t5 ad), va_recv (ci := 0) (q0 := 0) hK hP rfl rfl, fun U hU hW => c_pre (wc := [(q, .inr (0, [.ref pa, .int (iI ((s2 : Int)))])), (pa, .inl (cI, 306, .inl g))]) (eX_X t5 ad) hE hK hP hD hS hA [0, 1] rfl (by decide) U hU hW⟩ rfl rfl hl.1 rfl (lv_room (Nat.le_of_ble_eq_true rfl)) d_Na_timesTwoTo_15 ⟨Nat.le_of_ble_eq_true rfl, Nat.le_of_ble_eq_true rfl⟩) hP hD hS hA [0, 1] [] rfl rfl (by decide) (by decide) (fun u H locs hp hP hD hS => ?_)
      obtain ⟨f3, s3, rfl, hok3⟩ := hp
      have hP : va_P D ecl [(q, .inr (0, [.ref pa, .int (iI ((s3 : Int)))])), (pa, .inl (cI, 306, .inl f3))] H := hP
      have hD : va_D A [(q, .inr (0, [.ref pa, .int (iI ((s3 : Int)))])), (pa, .inl (cI, 306, .inl f3))] := hD
      refine lv_iinc (k := 2) (v := iI (zl + (-29))) hx hb d_Na_timesTwoTo_18 hl rfl (iI_add _ _) (by decide) rfl (fun ls hl => ?_)
      have hl : lv_has ls 3 [(2, .int (iI (zl + (-29)))), (0, .ref q), (1, .int (iI (k)))] := hl
      refine lv_goto (tgt := 2) hx hb d_Na_timesTwoTo_21 rfl ?_
      have hl := lv_sub hl [1, 2, 0] rfl
      exact ih _ (by omega) (left - mn) (f3) (s3) (V2 * 2 ^ mn) _ _ ls H locs rfl (by omega) (by omega) (by omega) (rfl) (hok3) (by rw [← hV2, Nat.mul_assoc, ← Nat.pow_add]; congr 2; omega) hl hP hD hS
  refine lv_iload_n hx hb d_Na_timesTwoTo_0 rfl (lv_at hl 1 rfl) ?_
  refine lv_istore_n hx hb d_Na_timesTwoTo_1 rfl hl (by decide) rfl (fun ls hl => ?_)
  have hl : lv_has ls 3 [(2, .int (iI (k))), (0, .ref q), (1, .int (iI (k)))] := hl
  have hl := lv_sub hl [1, 2, 0] rfl
  exact L2 _ (k.toNat) (f) (sz) (V) _ _ ls s.heap [] rfl (by omega) (by omega) (by omega) (rfl) (hV) (rfl) hl hP hD hS
end
section
/-! digits of a Natural, one by one -/
/-- a part, without its last digits -/
def rd (V i : Nat) : Nat := V / 1000000000 ^ (i / 9) % 1000000000 / 10 ^ (i % 9)
theorem rd_0 {V i : Nat} (h : i % 9 = 0) : rd V i = V / 1000000000 ^ (i / 9) % 1000000000 := by rw [rd, h, Nat.pow_zero, Nat.div_one]
theorem rd_s {V i : Nat} (h : ¬ i % 9 = 0) : rd V i = rd V (i - 1) / 10 := by
  have e1 : i / 9 = (i - 1) / 9 := by omega
  have e2 : i % 9 = (i - 1) % 9 + 1 := by omega
  rw [rd, rd, e1, e2, Nat.pow_succ, Nat.div_div_eq_div_mul]
theorem rd_lt (V i : Nat) : rd V i < 1000000000 := Nat.lt_of_le_of_lt (Nat.div_le_self _ _) (nb_lt V _)
theorem rd_d (V i : Nat) : rd V i % 10 = V / 10 ^ i % 10 := nb_digit V i
/-- whether a digit that is not 0 stands below a place -/
def hdb (V : Nat) (place : Int) : Int := if V % 10 ^ place.toNat = 0 then 0 else 1
theorem hdb_nar (V : Nat) (place : Int) : narrow .boolean (.int (iI (hdb V place))) = .int (iI (hdb V place)) := by
  unfold hdb
  split <;> decide +kernel
theorem hdb_or (V : Nat) (place : Int) : hdb V place = 0 ∨ hdb V place = 1 := by
  unfold hdb
  split
  · exact Or.inl rfl
  · exact Or.inr rfl
theorem md_s {V i : Nat} (h : V % 10 ^ i = 0) (h2 : V / 10 ^ i % 10 = 0) : V % 10 ^ (i + 1) = 0 := by rw [nb_mod, h, h2]; simp
theorem md_n {V i : Nat} {place : Int} (h2 : ¬ V / 10 ^ i % 10 = 0) (hp : ((i + 1 : Nat) : Int) ≤ place) : hdb V place = 1 := by
  unfold hdb
  rw [if_neg]
  intro z
  have d : 10 ^ (i + 1) ∣ 10 ^ place.toNat := Nat.pow_dvd_pow 10 (by omega)
  have z2 : V % 10 ^ (i + 1) = 0 := by rw [← Nat.mod_mod_of_dvd V d, z]; simp
  have z3 := nb_mod 10 V i
  rw [z2] at z3
  have : 10 ^ i * (V / 10 ^ i % 10) = 0 := by omega
  rcases Nat.mul_eq_zero.mp this with y | y
  · have := p10_pos i; omega
  · exact h2 y
theorem md_e {V i : Nat} {place : Int} (h : V % 10 ^ i = 0) (hi : (i : Int) = min place ((dl V : Nat) : Int) ∨ (i = 0 ∧ place ≤ 0)) : hdb V place = 0 := by
  unfold hdb
  rw [if_pos]
  rcases hi with hi | ⟨hi, hp⟩
  · rcases Int.le_total place ((dl V : Nat) : Int) with z | z
    · have : place.toNat = i := by omega
      rw [this]; exact h
    · have e : i = dl V := by omega
      rw [e, Nat.mod_eq_of_lt (dl_lt V)] at h
      rw [h]; simp
  · have : place.toNat = 0 := by omega
    rw [this, Nat.pow_zero, Nat.mod_one]
/-- the first digits of V stand in the row -/
def cp_ok (h : Nat → Int32) (V : Nat) : Prop := ∀ j, j < dl V → j < 1200 → h j = iI ((V / 10 ^ (dl V - 1 - j) % 10 : Nat) : Int)
theorem cp_s {h : Nat → Int32} {V i : Nat} {x : Int32} (hh : ∀ j, dl V - i ≤ j → j < dl V → j < 1200 → h j = iI ((V / 10 ^ (dl V - 1 - j) % 10 : Nat) : Int)) (hi : i < dl V) (hx : x = iI ((V / 10 ^ i % 10 : Nat) : Int)) :
    ∀ j, dl V - (i + 1) ≤ j → j < dl V → j < 1200 → upd h (dl V - 1 - i) x j = iI ((V / 10 ^ (dl V - 1 - j) % 10 : Nat) : Int) := by
  intro j h1 h2 h3
  by_cases e : j = dl V - 1 - i
  · have e2 : dl V - 1 - j = i := by omega
    rw [hx, e2, e, pk_us]
  · rw [pk_un e]; exact hh j (by omega) h2 h3
theorem cp_n {h : Nat → Int32} {V i : Nat} (hh : ∀ j, dl V - i ≤ j → j < dl V → j < 1200 → h j = iI ((V / 10 ^ (dl V - 1 - j) % 10 : Nat) : Int)) (hi : 1200 ≤ dl V - 1 - i) :
    ∀ j, dl V - (i + 1) ≤ j → j < dl V → j < 1200 → h j = iI ((V / 10 ^ (dl V - 1 - j) % 10 : Nat) : Int) := fun j h1 h2 h3 => hh j (by omega) h2 h3
theorem nt_pl {f : Nat → Int32} {sz V i : Nat} (h : nt_ok f sz V) (hi : i < dl V) : i / 9 < sz := by
  rcases Nat.lt_or_ge (i / 9) sz with z | z
  · exact z
  · obtain ⟨-, h2, -, -⟩ := h
    rw [pB_10] at h2
    have := dl_bound h2
    omega
/-- the first i digits; zeros stand behind the last -/
def fd (V i : Nat) : Nat := if i ≤ dl V then V / 10 ^ (dl V - i) else V * 10 ^ (i - dl V)
theorem fd_0 (V : Nat) : fd V 0 = 0 := by
  unfold fd
  rw [if_pos (by omega), Nat.sub_zero, Nat.div_eq_of_lt (dl_lt V)]
theorem fd_d {V i : Nat} (h : i < dl V) : fd V (i + 1) = fd V i * 10 + V / 10 ^ (dl V - 1 - i) % 10 := by
  unfold fd
  rw [if_pos (by omega), if_pos (by omega)]
  exact dg_first h
theorem fd_z {V i : Nat} (h : dl V ≤ i) : fd V (i + 1) = fd V i * 10 := by
  unfold fd
  rw [if_neg (by omega)]
  have e : i + 1 - dl V = i - dl V + 1 := by omega
  rcases Nat.lt_or_ge (dl V) i with z | z
  · rw [if_neg (by omega), e, Nat.pow_succ, Nat.mul_assoc]
  · have : i = dl V := by omega
    rw [if_pos (by omega), e, this]; simp
theorem fd_le {V i : Nat} : fd V i * 10 ≤ fd V (i + 1) := by
  rcases Nat.lt_or_ge i (dl V) with z | z
  · rw [fd_d z]; omega
  · rw [fd_z z]; omega
theorem fd_mono {V i n : Nat} (h : i ≤ n) : fd V i ≤ fd V n := by
  induction n with
  | zero => have : i = 0 := by omega
            rw [this]; exact Nat.le_refl _
  | succ n ih =>
    rcases Nat.lt_or_ge i (n + 1) with z | z
    · have := ih (by omega)
      have := fd_le (V := V) (i := n)
      omega
    · have : i = n + 1 := by omega
      rw [this]; exact Nat.le_refl _
end
section
set_option maxHeartbeats 4000000 in
set_option maxRecDepth 100000 in
/-- hasDigitBelow(place) -/
theorem c_Na_hasDigitBelow (l : Launch) (D : va_G) (cB cI cJ : ClassId) (t5 : Nat) (ad : Nat → Nat) (q pa : Nat) (f : Nat → Int32) (sz V : Nat) (place : Int) (hpl : -1000000 ≤ place ∧ place ≤ 1000000) (hV : nt_ok f sz V) : c_I l m_Na_hasDigitBelow (Cond.code m_Na_hasDigitBelow b_Na_hasDigitBelow 5 (some .boolean) :: gw) (rm_ 1 22) (eX t5 ad) D ecl (tyS cB cI cJ) [.ref q, .int (iI (place))] [(q, .inr (0, [.ref pa, .int (iI ((sz : Int)))])), (pa, .inl (cI, 306, .inl f))] (fun r u => r = iI (hdb V place) ∧ u = [(q, .inr (0, [.ref pa, .int (iI ((sz : Int)))])), (pa, .inl (cI, 306, .inl f))]) 0 0 := by
  intro sz0
  refine Met.ofW (cc := b_Na_hasDigitBelow) (maxL := 5) (ret := (some .boolean)) (by decide) rfl ?_
  intro p e s m args below meth c s₁ B hml hv
  obtain ⟨rfl, hsz, hP, hK, hD0, hE⟩ := hv
  have hx := B.exec
  have hb := B.bytes
  have hr := B.returns
  have hts := atoms_spec (ws := Cond.code m_Na_hasDigitBelow b_Na_hasDigitBelow 5 (some .boolean) :: gw) B.pre
  have hown : s.vm.findClass R_Na = some m.cls := findClass_of_methodNamed B.named
  have hlocks := B.notSynchronized
  subst hsz
  have hD := hD0.self (sz := s.heap.size)
  generalize hAe : va_A [(q, .inr (0, [.ref pa, .int (iI ((sz : Int)))])), (pa, .inl (cI, 306, .inl f))] s.heap.size = A at hD hE ⊢
  have hA : ∀ q : Nat, s.heap.size ≤ q → A q := fun q h => by rw [← hAe]; exact Or.inr h
  have hS : va_S A s.heap s.heap [] := va_S.rf
  have hl := lv_entry ([.ref q, .int (iI (place))]) (n := 5) (Nat.le_of_ble_eq_true rfl)
  rw [lg_entry_eq]
  generalize (lg_sl ([.ref q, .int (iI (place))]) ++ List.replicate (5 - (lg_sl ([.ref q, .int (iI (place))])).length) Slot.unset).toArray = ls at hl ⊢
  have hl : lv_has ls 5 [(0, .ref q), (1, .int (iI (place)))] := hl
  have hdl : dl V ≤ 2754 := by
    have hV2 := hV.2.1
    rw [pB_10] at hV2
    exact dl_bound (Nat.lt_of_lt_of_le hV2 (p10_le (by have := hV.1; omega)))
  have L14 : ∀ (n9 : Nat) (i : Nat) (x : Nat) (zi : Int) (zx : Int) (ls : Array Slot) (H : Heap) (locs : List Loc), dl V - i = n9 → (zi = (i : Int)) → (zx = (x : Int)) → (x < 1000000000) → ((¬ i % 9 = 0 → x = rd V (i - 1))) → (i ≤ dl V) → (((i : Int) ≤ min place ((dl V : Nat) : Int) ∨ i = 0)) → (V % 10 ^ i = 0) → lv_has ls 5 [(0, .ref q), (2, .int (iI (min place ((dl V : Nat) : Int)))), (3, .int (iI (zx))), (4, .int (iI (zi)))] → va_P D ecl [(q, .inr (0, [.ref pa, .int (iI ((sz : Int)))])), (pa, .inl (cI, 306, .inl f))] H → va_D A [(q, .inr (0, [.ref pa, .int (iI ((sz : Int)))])), (pa, .inl (cI, 306, .inl f))] → va_S A s.heap H locs → W p l e (headSpec (Cond.code m_Na_hasDigitBelow b_Na_hasDigitBelow 5 (some .boolean) :: gw) (rm_ 1 22)).room s m ([.ref q, .int (iI (place))] : List Value).toArray below meth c H locs 0 0 (MQ below (va_Qi (fun r u => r = iI (hdb V place) ∧ u = [(q, .inr (0, [.ref pa, .int (iI ((sz : Int)))])), (pa, .inl (cI, 306, .inl f))]) (c_B D ecl A) A) ([.ref q, .int (iI (place))] : List Value).toArray s 0 0 A) (F0 m 14 ls []) := by
    intro n9
    induction n9 using Nat.strongRecOn with
    | ind n9 ih =>
    intro i x zi zx ls H locs hn9 hi hzx hx9 hxr hil hie hm hl hP hD hS
    refine lv_iload hx hb d_Na_hasDigitBelow_14 (lv_at hl 3 rfl) ?_
    refine lv_iload_n hx hb d_Na_hasDigitBelow_16 rfl (lv_at hl 1 rfl) ?_
    refine ed_icmp_ge (tgt := 61) hx hb d_Na_hasDigitBelow_17 rfl (by omega) (by omega) (fun h_1 => ?_) (fun h_1 => ?_)
    · skip
      refine ed_pc (pc' := 61) rfl ?_
      refine lv_iconst (v := iI 0) hx hb d_Na_hasDigitBelow_61 rfl ?_
      exact W.zret (v := (iI (0))) hx hb hr (by decide +kernel) (fun t9 ht9 hW9 => ⟨⟨(iI (0)), [(q, .inr (0, [.ref pa, .int (iI ((sz : Int)))])), (pa, .inl (cI, 306, .inl f))], rfl, ⟨by rw [md_e hm (by omega)], rfl⟩, by rw [ht9]; exact hP, hD⟩, hS.F ht9⟩) hS.2.2 d_Na_hasDigitBelow_62
    · skip
      refine ed_pc (pc' := 20) rfl ?_
      refine lv_iload hx hb d_Na_hasDigitBelow_20 (lv_at hl 3 rfl) ?_
      refine lv_bipush (v := iI 9) hx hb d_Na_hasDigitBelow_22 (by decide +kernel) ?_
      refine ed_irem hx hb d_Na_hasDigitBelow_24 (by omega) (by omega) (by omega) ?_
      refine ed_if_ne (tgt := 41) hx hb d_Na_hasDigitBelow_25 rfl (by omega) (fun h_2 => ?_) (fun h_2 => ?_)
      · skip
        refine ed_pc (pc' := 41) rfl ?_
        refine ed_pc (pc' := 41) rfl ?_
        refine lv_iload_n hx hb d_Na_hasDigitBelow_41 rfl (lv_at hl 2 rfl) ?_
        refine lv_bipush (v := iI 10) hx hb d_Na_hasDigitBelow_42 (by decide +kernel) ?_
        refine ed_idiv hx hb d_Na_hasDigitBelow_44 (by omega) (by omega) (by omega) ?_
        refine ed_tz (y := ((rd V i : Nat) : Int)) (by rw [rd_s (by omega), ← hxr (by omega)]; omega) ?_
        have hrl := rd_lt V i
        refine lv_istore_n hx hb d_Na_hasDigitBelow_45 rfl hl (by decide) rfl (fun ls hl => ?_)
        have hl : lv_has ls 5 [(3, .int (iI (((rd V i : Nat) : Int)))), (0, .ref q), (2, .int (iI (min place ((dl V : Nat) : Int)))), (4, .int (iI (zi)))] := hl
        refine lv_iload_n hx hb d_Na_hasDigitBelow_46 rfl (lv_at hl 0 rfl) ?_
        refine lv_bipush (v := iI 10) hx hb d_Na_hasDigitBelow_47 (by decide +kernel) ?_
        refine ed_irem hx hb d_Na_hasDigitBelow_49 (by omega) (by omega) (by omega) ?_
        refine ed_if_eq (tgt := 55) hx hb d_Na_hasDigitBelow_50 rfl (by omega) (fun h_3 => ?_) (fun h_3 => ?_)
        · skip
          refine ed_pc (pc' := 55) rfl ?_
          refine ed_pc (pc' := 55) rfl ?_
          refine lv_iinc (k := 3) (v := iI (zi + 1)) hx hb d_Na_hasDigitBelow_55 hl rfl (iI_add _ _) (by decide) rfl (fun ls hl => ?_)
          have hl : lv_has ls 5 [(4, .int (iI (zi + 1))), (3, .int (iI (((rd V i : Nat) : Int)))), (0, .ref q), (2, .int (iI (min place ((dl V : Nat) : Int))))] := hl
          refine lv_goto (tgt := 14) hx hb d_Na_hasDigitBelow_58 rfl ?_
          have hl := lv_sub hl [2, 3, 1, 0] rfl
          exact ih _ (by omega) (i + 1) (rd V i) _ _ ls H locs rfl (by omega) (rfl) (rd_lt V i) (fun _ => by rw [Nat.add_sub_cancel]) (by omega) (Or.inl (by omega)) (md_s hm (by rw [← rd_d]; omega)) hl hP hD hS
        · skip
          refine ed_pc (pc' := 53) rfl ?_
          refine ed_pc (pc' := 53) rfl ?_
          refine lv_iconst (v := iI 1) hx hb d_Na_hasDigitBelow_53 rfl ?_
          exact W.zret (v := (iI (1))) hx hb hr (by decide +kernel) (fun t9 ht9 hW9 => ⟨⟨(iI (1)), [(q, .inr (0, [.ref pa, .int (iI ((sz : Int)))])), (pa, .inl (cI, 306, .inl f))], rfl, ⟨by rw [md_n (i := i) (by rw [← rd_d]; omega) (by omega)], rfl⟩, by rw [ht9]; exact hP, hD⟩, hS.F ht9⟩) hS.2.2 d_Na_hasDigitBelow_54
      · skip
        refine ed_pc (pc' := 28) rfl ?_
        refine ed_pc (pc' := 28) rfl ?_
        refine lv_aload_n hx hb d_Na_hasDigitBelow_28 rfl (lv_at hl 0 rfl) ?_
        refine va_get (D := D) (ci := 0) (v := .ref pa) (C := R_Na) (T := T_Na) (N := 2) hx hb hts (fun w h => List.mem_cons_of_mem _ (in_Na w h)) hown hK hP 0 rfl rfl 0 (by decide) (hts _ (List.mem_cons_of_mem _ tw_31)) (fun _ h9 => h9) rfl d_Na_hasDigitBelow_29 ?_
        refine lv_iload hx hb d_Na_hasDigitBelow_32 (lv_at hl 3 rfl) ?_
        refine lv_bipush (v := iI 9) hx hb d_Na_hasDigitBelow_34 (by decide +kernel) ?_
        refine ed_idiv hx hb d_Na_hasDigitBelow_36 (by omega) (by omega) (by omega) ?_
        have hpi := nt_pl hV (show i < dl V by omega)
        have hs306 := hV.1
        refine ed_iald (y := ((rd V i : Nat) : Int)) hx hb hK hP 1 1 rfl rfl (i / 9) (by omega) (by omega) (by decide) (by rw [rd_0 (by omega)]; exact hV.2.2.2 (i / 9) (nt_pl hV (by omega))) d_Na_hasDigitBelow_37 ?_
        refine lv_goto (tgt := 45) hx hb d_Na_hasDigitBelow_38 rfl ?_
        have hrl := rd_lt V i
        refine lv_istore_n hx hb d_Na_hasDigitBelow_45 rfl hl (by decide) rfl (fun ls hl => ?_)
        have hl : lv_has ls 5 [(3, .int (iI (((rd V i : Nat) : Int)))), (0, .ref q), (2, .int (iI (min place ((dl V : Nat) : Int)))), (4, .int (iI (zi)))] := hl
        refine ed_pc (pc' := 46) rfl ?_
        refine lv_iload_n hx hb d_Na_hasDigitBelow_46 rfl (lv_at hl 0 rfl) ?_
        refine lv_bipush (v := iI 10) hx hb d_Na_hasDigitBelow_47 (by decide +kernel) ?_
        refine ed_irem hx hb d_Na_hasDigitBelow_49 (by omega) (by omega) (by omega) ?_
        refine ed_if_eq (tgt := 55) hx hb d_Na_hasDigitBelow_50 rfl (by omega) (fun h_4 => ?_) (fun h_4 => ?_)
        · skip
          refine ed_pc (pc' := 55) rfl ?_
          refine lv_iinc (k := 3) (v := iI (zi + 1)) hx hb d_Na_hasDigitBelow_55 hl rfl (iI_add _ _) (by decide) rfl (fun ls hl => ?_)
          have hl : lv_has ls 5 [(4, .int (iI (zi + 1))), (3, .int (iI (((rd V i : Nat) : Int)))), (0, .ref q), (2, .int (iI (min place ((dl V : Nat) : Int))))] := hl
          refine lv_goto (tgt := 14) hx hb d_Na_hasDigitBelow_58 rfl ?_
          have hl := lv_sub hl [2, 3, 1, 0] rfl
          exact ih _ (by omega) (i + 1) (rd V i) _ _ ls H locs rfl (by omega) (rfl) (rd_lt V i) (fun _ => by rw [Nat.add_sub_cancel]) (by omega) (Or.inl (by omega)) (md_s hm (by rw [← rd_d]; omega)) hl hP hD hS
        · skip
          refine ed_pc (pc' := 53) rfl ?_
          refine lv_iconst (v := iI 1) hx hb d_Na_hasDigitBelow_53 rfl ?_
          exact W.zret (v := (iI (1))) hx hb hr (by decide +kernel) (fun t9 ht9 hW9 => ⟨⟨(iI (1)), [(q, .inr (0, [.ref pa, .int (iI ((sz : Int)))])), (pa, .inl (cI, 306, .inl f))], rfl, ⟨by rw [md_n (i := i) (by rw [← rd_d]; omega) (by omega)], rfl⟩, by rw [ht9]; exact hP, hD⟩, hS.F ht9⟩) hS.2.2 d_Na_hasDigitBelow_54
  refine lv_iload_n hx hb d_Na_hasDigitBelow_0 rfl (lv_at hl 1 rfl) ?_
  refine lv_aload_n hx hb d_Na_hasDigitBelow_1 rfl (lv_at hl 0 rfl) ?_
  refine c_fi (wc := [(q, .inr (0, [.ref pa, .int (iI ((sz : Int)))])), (pa, .inl (cI, 306, .inl f))]) (wr := []) (va_runV (C := "ExactDigits$Natural") (As := []) (rest := [.int (iI (place))]) ⟨hx, hb, hml, hown, hts⟩ (c_Na_length l D cB cI cJ t5 ad q pa f sz V hV s.heap.size) (cwV 0 hts (gV tw_78 tw_71 tw_72 tw_2 tw_73) rfl rfl rfl (by decide +kernel) ⟨Nat.le_of_ble_eq_true rfl, Nat.le_of_ble_eq_true rfl⟩) ⟨c_blind (eX_X t5 ad), va_recv (ci := 0) (q0 := 0) hK hP rfl rfl, fun U hU hW => c_pre (wc := [(q, .inr (0, [.ref pa, .int (iI ((sz : Int)))])), (pa, .inl (cI, 306, .inl f))]) (eX_X t5 ad) hE hK hP hD hS hA [0, 1] rfl (by decide) U hU hW⟩ rfl rfl hl.1 rfl (lv_room (Nat.le_of_ble_eq_true rfl)) d_Na_hasDigitBelow_2 ⟨Nat.le_of_ble_eq_true rfl, Nat.le_of_ble_eq_true rfl⟩) hP hD hS hA [0, 1] [] rfl rfl (by decide) (by decide) (fun r u H locs hp hP hD hS => ?_)
  obtain ⟨rfl, rfl⟩ := hp
  have hP : va_P D ecl [(q, .inr (0, [.ref pa, .int (iI ((sz : Int)))])), (pa, .inl (cI, 306, .inl f))] H := hP
  have hD : va_D A [(q, .inr (0, [.ref pa, .int (iI ((sz : Int)))])), (pa, .inl (cI, 306, .inl f))] := hD
  refine ed_min hx hb (hml.trans hl.1.symm) hown (hts _ (List.mem_cons_of_mem _ tw_83)) (hts _ (List.mem_cons_of_mem _ tw_84)) (hts _ (List.mem_cons_of_mem _ tw_6)) (hts _ (List.mem_cons_of_mem _ tw_85)) (Nat.le_of_ble_eq_true rfl) (Nat.le_of_ble_eq_true rfl) (Nat.le_of_ble_eq_true rfl) (Nat.le_of_ble_eq_true rfl) (by omega) (by omega) d_Na_hasDigitBelow_5 ?_
  refine lv_istore_n hx hb d_Na_hasDigitBelow_8 rfl hl (by decide) rfl (fun ls hl => ?_)
  have hl : lv_has ls 5 [(2, .int (iI (min (place) (((dl V : Nat) : Int))))), (0, .ref q), (1, .int (iI (place)))] := hl
  refine lv_iconst (v := iI 0) hx hb d_Na_hasDigitBelow_9 rfl ?_
  refine lv_istore_n hx hb d_Na_hasDigitBelow_10 rfl hl (by decide) rfl (fun ls hl => ?_)
  have hl : lv_has ls 5 [(3, .int (iI (0))), (2, .int (iI (min (place) (((dl V : Nat) : Int))))), (0, .ref q), (1, .int (iI (place)))] := hl
  refine ed_pc (pc' := 11) rfl ?_
  refine lv_iconst (v := iI 0) hx hb d_Na_hasDigitBelow_11 rfl ?_
  refine lv_istore hx hb d_Na_hasDigitBelow_12 hl (by decide) rfl (fun ls hl => ?_)
  have hl : lv_has ls 5 [(4, .int (iI (0))), (3, .int (iI (0))), (2, .int (iI (min (place) (((dl V : Nat) : Int))))), (0, .ref q), (1, .int (iI (place)))] := hl
  have hl := lv_sub hl [3, 2, 1, 0] rfl
  exact L14 _ (0) (0) _ _ ls H locs rfl (rfl) (rfl) (by omega) (fun z => absurd rfl z) (by omega) (Or.inr rfl) (by rw [Nat.pow_zero, Nat.mod_one]) hl hP hD hS
end
section
set_option maxHeartbeats 4000000 in
set_option maxRecDepth 100000 in
/-- copyDigits(row) -/
theorem c_Na_copyDigits (l : Launch) (D : va_G) (cB cI cJ : ClassId) (t5 : Nat) (ad : Nat → Nat) (q pa pr : Nat) (f g : Nat → Int32) (sz V : Nat) (hV : nt_ok f sz V) : c_I l m_Na_copyDigits (Cond.code m_Na_copyDigits b_Na_copyDigits 6 (some .boolean) :: gw) (rm_ 2 46) (eX t5 ad) D ecl (tyS cB cI cJ) [.ref q, .ref pr] [(q, .inr (0, [.ref pa, .int (iI ((sz : Int)))])), (pa, .inl (cI, 306, .inl f)), (pr, .inl (cB, 1200, .inl g))] (fun r u => r = iI (hdb V ((dl V : Int) - 1200)) ∧ ∃ (g' : Nat → Int32), u = [(q, .inr (0, [.ref pa, .int (iI ((sz : Int)))])), (pa, .inl (cI, 306, .inl f)), (pr, .inl (cB, 1200, .inl g'))] ∧ cp_ok g' V) 0 0 := by
  intro sz0
  refine Met.ofW (cc := b_Na_copyDigits) (maxL := 6) (ret := (some .boolean)) (by decide) rfl ?_
  intro p e s m args below meth c s₁ B hml hv
  obtain ⟨rfl, hsz, hP, hK, hD0, hE⟩ := hv
  have hx := B.exec
  have hb := B.bytes
  have hr := B.returns
  have hts := atoms_spec (ws := Cond.code m_Na_copyDigits b_Na_copyDigits 6 (some .boolean) :: gw) B.pre
  have hown : s.vm.findClass R_Na = some m.cls := findClass_of_methodNamed B.named
  have hlocks := B.notSynchronized
  subst hsz
  have hD := hD0.self (sz := s.heap.size)
  generalize hAe : va_A [(q, .inr (0, [.ref pa, .int (iI ((sz : Int)))])), (pa, .inl (cI, 306, .inl f)), (pr, .inl (cB, 1200, .inl g))] s.heap.size = A at hD hE ⊢
  have hA : ∀ q : Nat, s.heap.size ≤ q → A q := fun q h => by rw [← hAe]; exact Or.inr h
  have hS : va_S A s.heap s.heap [] := va_S.rf
  have hl := lv_entry ([.ref q, .ref pr]) (n := 6) (Nat.le_of_ble_eq_true rfl)
  rw [lg_entry_eq]
  generalize (lg_sl ([.ref q, .ref pr]) ++ List.replicate (6 - (lg_sl ([.ref q, .ref pr])).length) Slot.unset).toArray = ls at hl ⊢
  have hl : lv_has ls 6 [(0, .ref q), (1, .ref pr)] := hl
  have hdl : dl V ≤ 2754 := by
    have hV2 := hV.2.1
    rw [pB_10] at hV2
    exact dl_bound (Nat.lt_of_lt_of_le hV2 (p10_le (by have := hV.1; omega)))
  have L10 : ∀ (n9 : Nat) (i : Nat) (x : Nat) (h : Nat → Int32) (zi : Int) (zx : Int) (ls : Array Slot) (H : Heap) (locs : List Loc), dl V - i = n9 → (zi = (i : Int)) → (zx = (x : Int)) → (x < 1000000000) → ((¬ i % 9 = 0 → x = rd V (i - 1))) → (i ≤ dl V) → ((∀ j, dl V - i ≤ j → j < dl V → j < 1200 → h j = iI ((V / 10 ^ (dl V - 1 - j) % 10 : Nat) : Int))) → lv_has ls 6 [(0, .ref q), (1, .ref pr), (2, .int (iI (((dl V : Nat) : Int)))), (3, .int (iI (zx))), (4, .int (iI (zi)))] → va_P D ecl [(pr, .inl (cB, 1200, .inl h)), (q, .inr (0, [.ref pa, .int (iI ((sz : Int)))])), (pa, .inl (cI, 306, .inl f))] H → va_D A [(pr, .inl (cB, 1200, .inl h)), (q, .inr (0, [.ref pa, .int (iI ((sz : Int)))])), (pa, .inl (cI, 306, .inl f))] → va_S A s.heap H locs → W p l e (headSpec (Cond.code m_Na_copyDigits b_Na_copyDigits 6 (some .boolean) :: gw) (rm_ 2 46)).room s m ([.ref q, .ref pr] : List Value).toArray below meth c H locs 0 0 (MQ below (va_Qi (fun r u => r = iI (hdb V ((dl V : Int) - 1200)) ∧ ∃ (g' : Nat → Int32), u = [(q, .inr (0, [.ref pa, .int (iI ((sz : Int)))])), (pa, .inl (cI, 306, .inl f)), (pr, .inl (cB, 1200, .inl g'))] ∧ cp_ok g' V) (c_B D ecl A) A) ([.ref q, .ref pr] : List Value).toArray s 0 0 A) (F0 m 10 ls []) := by
    intro n9
    induction n9 using Nat.strongRecOn with
    | ind n9 ih =>
    intro i x h zi zx ls H locs hn9 hi hzx hx9 hxr hil hh hl hP hD hS
    refine lv_iload hx hb d_Na_copyDigits_10 (lv_at hl 4 rfl) ?_
    refine lv_iload_n hx hb d_Na_copyDigits_12 rfl (lv_at hl 2 rfl) ?_
    refine ed_icmp_ge (tgt := 72) hx hb d_Na_copyDigits_13 rfl (by omega) (by omega) (fun h_1 => ?_) (fun h_1 => ?_)
    · skip
      refine ed_pc (pc' := 72) rfl ?_
      refine lv_aload_n hx hb d_Na_copyDigits_72 rfl (lv_at hl 0 rfl) ?_
      refine lv_iload_n hx hb d_Na_copyDigits_73 rfl (lv_at hl 2 rfl) ?_
      refine lv_aload_n hx hb d_Na_copyDigits_74 rfl (lv_at hl 1 rfl) ?_
      refine va_alen (v := iI 1200) hx hb hK hP 0 0 rfl rfl rfl d_Na_copyDigits_75 ?_
      refine ed_pc (pc' := 76) rfl ?_
      refine ed_isub hx hb d_Na_copyDigits_76 ?_
      refine c_fi (wc := [(q, .inr (0, [.ref pa, .int (iI ((sz : Int)))])), (pa, .inl (cI, 306, .inl f))]) (wr := [(pr, .inl (cB, 1200, .inl h))]) (va_runV (C := "ExactDigits$Natural") (As := [.int (iI ((((dl V : Nat) : Int)) - (1200)))]) (rest := []) ⟨hx, hb, hml, hown, hts⟩ (c_Na_hasDigitBelow l D cB cI cJ t5 ad q pa f sz V (((dl V : Nat) : Int) - 1200) (by omega) hV H.size) (cwV 1 hts (gV tw_79 tw_80 tw_81 tw_2 tw_82) rfl rfl rfl (by decide +kernel) ⟨Nat.le_of_ble_eq_true rfl, Nat.le_of_ble_eq_true rfl⟩) ⟨c_blind (eX_X t5 ad), va_recv (ci := 0) (q0 := 1) hK hP rfl rfl, fun U hU hW => c_pre (wc := [(q, .inr (0, [.ref pa, .int (iI ((sz : Int)))])), (pa, .inl (cI, 306, .inl f))]) (eX_X t5 ad) hE hK hP hD hS hA [1, 2] rfl (by decide) U hU hW⟩ rfl rfl hl.1 rfl (lv_room (Nat.le_of_ble_eq_true rfl)) d_Na_copyDigits_77 ⟨Nat.le_of_ble_eq_true rfl, Nat.le_of_ble_eq_true rfl⟩) hP hD hS hA [1, 2] [0] rfl rfl (by decide) (by decide) (fun r u H locs hp hP hD hS => ?_)
      obtain ⟨rfl, rfl⟩ := hp
      have hP : va_P D ecl [(pr, .inl (cB, 1200, .inl h)), (q, .inr (0, [.ref pa, .int (iI ((sz : Int)))])), (pa, .inl (cI, 306, .inl f))] H := hP
      have hD : va_D A [(pr, .inl (cB, 1200, .inl h)), (q, .inr (0, [.ref pa, .int (iI ((sz : Int)))])), (pa, .inl (cI, 306, .inl f))] := hD
      have hP := hP.sub (ws' := [(q, .inr (0, [.ref pa, .int (iI ((sz : Int)))])), (pa, .inl (cI, 306, .inl f)), (pr, .inl (cB, 1200, .inl h))]) [1, 2, 0] rfl
      have hD := hD.sub (ws' := [(q, .inr (0, [.ref pa, .int (iI ((sz : Int)))])), (pa, .inl (cI, 306, .inl f)), (pr, .inl (cB, 1200, .inl h))]) [1, 2, 0] (by decide) rfl
      exact W.zret (v := (iI (hdb V (((dl V : Nat) : Int) - 1200)))) hx hb hr (hdb_nar _ _) (fun t9 ht9 hW9 => ⟨⟨(iI (hdb V (((dl V : Nat) : Int) - 1200))), [(q, .inr (0, [.ref pa, .int (iI ((sz : Int)))])), (pa, .inl (cI, 306, .inl f)), (pr, .inl (cB, 1200, .inl h))], rfl, ⟨rfl, h, rfl, fun j h1 h2 => hh j (by omega) h1 h2⟩, by rw [ht9]; exact hP, hD⟩, hS.F ht9⟩) hS.2.2 d_Na_copyDigits_80
    · skip
      refine ed_pc (pc' := 16) rfl ?_
      refine lv_iload hx hb d_Na_copyDigits_16 (lv_at hl 4 rfl) ?_
      refine lv_bipush (v := iI 9) hx hb d_Na_copyDigits_18 (by decide +kernel) ?_
      refine ed_irem hx hb d_Na_copyDigits_20 (by omega) (by omega) (by omega) ?_
      refine ed_if_ne (tgt := 37) hx hb d_Na_copyDigits_21 rfl (by omega) (fun h_2 => ?_) (fun h_2 => ?_)
      · skip
        refine ed_pc (pc' := 37) rfl ?_
        refine ed_pc (pc' := 37) rfl ?_
        refine lv_iload_n hx hb d_Na_copyDigits_37 rfl (lv_at hl 3 rfl) ?_
        refine lv_bipush (v := iI 10) hx hb d_Na_copyDigits_38 (by decide +kernel) ?_
        refine ed_idiv hx hb d_Na_copyDigits_40 (by omega) (by omega) (by omega) ?_
        refine ed_tz (y := ((rd V i : Nat) : Int)) (by rw [rd_s (by omega), ← hxr (by omega)]; omega) ?_
        have hrl := rd_lt V i
        refine lv_istore_n hx hb d_Na_copyDigits_41 rfl hl (by decide) rfl (fun ls hl => ?_)
        have hl : lv_has ls 6 [(3, .int (iI (((rd V i : Nat) : Int)))), (0, .ref q), (1, .ref pr), (2, .int (iI (((dl V : Nat) : Int)))), (4, .int (iI (zi)))] := hl
        refine lv_iload_n hx hb d_Na_copyDigits_42 rfl (lv_at hl 3 rfl) ?_
        refine lv_iconst (v := iI 1) hx hb d_Na_copyDigits_43 rfl ?_
        refine ed_isub hx hb d_Na_copyDigits_44 ?_
        refine lv_iload hx hb d_Na_copyDigits_45 (lv_at hl 4 rfl) ?_
        refine ed_pc (pc' := 47) rfl ?_
        refine ed_isub hx hb d_Na_copyDigits_47 ?_
        refine lv_istore hx hb d_Na_copyDigits_48 hl (by decide) rfl (fun ls hl => ?_)
        have hl : lv_has ls 6 [(5, .int (iI (((((dl V : Nat) : Int)) - (1)) - (zi)))), (3, .int (iI (((rd V i : Nat) : Int)))), (0, .ref q), (1, .ref pr), (2, .int (iI (((dl V : Nat) : Int)))), (4, .int (iI (zi)))] := hl
        refine lv_iload hx hb d_Na_copyDigits_50 (lv_at hl 0 rfl) ?_
        refine lv_aload_n hx hb d_Na_copyDigits_52 rfl (lv_at hl 3 rfl) ?_
        refine va_alen (v := iI 1200) hx hb hK hP 0 0 rfl rfl rfl d_Na_copyDigits_53 ?_
        refine ed_icmp_ge (tgt := 66) hx hb d_Na_copyDigits_54 rfl (by omega) (by omega) (fun h_3 => ?_) (fun h_3 => ?_)
        · skip
          refine ed_pc (pc' := 66) rfl ?_
          refine lv_iinc (k := 5) (v := iI (zi + 1)) hx hb d_Na_copyDigits_66 hl rfl (iI_add _ _) (by decide) rfl (fun ls hl => ?_)
          have hl : lv_has ls 6 [(4, .int (iI (zi + 1))), (5, .int (iI (((((dl V : Nat) : Int)) - (1)) - (zi)))), (3, .int (iI (((rd V i : Nat) : Int)))), (0, .ref q), (1, .ref pr), (2, .int (iI (((dl V : Nat) : Int))))] := hl
          refine lv_goto (tgt := 10) hx hb d_Na_copyDigits_69 rfl ?_
          have hl := lv_sub hl [3, 4, 5, 2, 0] rfl
          exact ih _ (by omega) (i + 1) (rd V i) (h) _ _ ls H locs rfl (by omega) (rfl) (rd_lt V i) (fun _ => by rw [Nat.add_sub_cancel]) (by omega) (cp_n hh (by omega)) hl hP hD hS
        · skip
          refine ed_pc (pc' := 57) rfl ?_
          refine lv_aload_n hx hb d_Na_copyDigits_57 rfl (lv_at hl 3 rfl) ?_
          refine lv_iload hx hb d_Na_copyDigits_58 (lv_at hl 0 rfl) ?_
          refine ed_pc (pc' := 60) rfl ?_
          refine lv_iload_n hx hb d_Na_copyDigits_60 rfl (lv_at hl 1 rfl) ?_
          refine lv_bipush (v := iI 10) hx hb d_Na_copyDigits_61 (by decide +kernel) ?_
          refine ed_irem hx hb d_Na_copyDigits_63 (by omega) (by omega) (by omega) ?_
          refine ed_i2b hx hb d_Na_copyDigits_64 (by omega) ?_
          refine ed_bast hx hb hK hP hD hS 0 0 rfl rfl (dl V - 1 - i) (by omega) (by omega) (by decide) (by omega) d_Na_copyDigits_65 (fun H locs hP hD hS => ?_)
          have hP : va_P D ecl [(pr, .inl (cB, 1200, .inl (upd h (dl V - 1 - i) ((iI ((((rd V i : Nat) : Int)) % (10))))))), (q, .inr (0, [.ref pa, .int (iI ((sz : Int)))])), (pa, .inl (cI, 306, .inl f))] H := hP
          have hD : va_D A [(pr, .inl (cB, 1200, .inl (upd h (dl V - 1 - i) ((iI ((((rd V i : Nat) : Int)) % (10))))))), (q, .inr (0, [.ref pa, .int (iI ((sz : Int)))])), (pa, .inl (cI, 306, .inl f))] := hD
          refine lv_iinc (k := 5) (v := iI (zi + 1)) hx hb d_Na_copyDigits_66 hl rfl (iI_add _ _) (by decide) rfl (fun ls hl => ?_)
          have hl : lv_has ls 6 [(4, .int (iI (zi + 1))), (5, .int (iI (((((dl V : Nat) : Int)) - (1)) - (zi)))), (3, .int (iI (((rd V i : Nat) : Int)))), (0, .ref q), (1, .ref pr), (2, .int (iI (((dl V : Nat) : Int))))] := hl
          refine lv_goto (tgt := 10) hx hb d_Na_copyDigits_69 rfl ?_
          have hl := lv_sub hl [3, 4, 5, 2, 0] rfl
          exact ih _ (by omega) (i + 1) (rd V i) (_) _ _ ls H locs rfl (by omega) (rfl) (rd_lt V i) (fun _ => by rw [Nat.add_sub_cancel]) (by omega) (cp_s hh (by omega) (by rw [← rd_d]; rfl)) hl hP hD hS
      · skip
        refine ed_pc (pc' := 24) rfl ?_
        refine ed_pc (pc' := 24) rfl ?_
        refine lv_aload_n hx hb d_Na_copyDigits_24 rfl (lv_at hl 0 rfl) ?_
        refine va_get (D := D) (ci := 0) (v := .ref pa) (C := R_Na) (T := T_Na) (N := 2) hx hb hts (fun w h => List.mem_cons_of_mem _ (in_Na w h)) hown hK hP 1 rfl rfl 0 (by decide) (hts _ (List.mem_cons_of_mem _ tw_31)) (fun _ h9 => h9) rfl d_Na_copyDigits_25 ?_
        refine lv_iload hx hb d_Na_copyDigits_28 (lv_at hl 4 rfl) ?_
        refine lv_bipush (v := iI 9) hx hb d_Na_copyDigits_30 (by decide +kernel) ?_
        refine ed_idiv hx hb d_Na_copyDigits_32 (by omega) (by omega) (by omega) ?_
        have hpi := nt_pl hV (show i < dl V by omega)
        have hs306 := hV.1
        refine ed_iald (y := ((rd V i : Nat) : Int)) hx hb hK hP 2 1 rfl rfl (i / 9) (by omega) (by omega) (by decide) (by rw [rd_0 (by omega)]; exact hV.2.2.2 (i / 9) (nt_pl hV (by omega))) d_Na_copyDigits_33 ?_
        refine lv_goto (tgt := 41) hx hb d_Na_copyDigits_34 rfl ?_
        have hrl := rd_lt V i
        refine lv_istore_n hx hb d_Na_copyDigits_41 rfl hl (by decide) rfl (fun ls hl => ?_)
        have hl : lv_has ls 6 [(3, .int (iI (((rd V i : Nat) : Int)))), (0, .ref q), (1, .ref pr), (2, .int (iI (((dl V : Nat) : Int)))), (4, .int (iI (zi)))] := hl
        refine ed_pc (pc' := 42) rfl ?_
        refine lv_iload_n hx hb d_Na_copyDigits_42 rfl (lv_at hl 3 rfl) ?_
        refine lv_iconst (v := iI 1) hx hb d_Na_copyDigits_43 rfl ?_
        refine ed_isub hx hb d_Na_copyDigits_44 ?_
        refine lv_iload hx hb d_Na_copyDigits_45 (lv_at hl 4 rfl) ?_
        refine ed_isub hx hb d_Na_copyDigits_47 ?_
        refine lv_istore hx hb d_Na_copyDigits_48 hl (by decide) rfl (fun ls hl => ?_)
        have hl : lv_has ls 6 [(5, .int (iI (((((dl V : Nat) : Int)) - (1)) - (zi)))), (3, .int (iI (((rd V i : Nat) : Int)))), (0, .ref q), (1, .ref pr), (2, .int (iI (((dl V : Nat) : Int)))), (4, .int (iI (zi)))] := hl
        refine lv_iload hx hb d_Na_copyDigits_50 (lv_at hl 0 rfl) ?_
        refine lv_aload_n hx hb d_Na_copyDigits_52 rfl (lv_at hl 3 rfl) ?_
        refine ed_pc (pc' := 53) rfl ?_
        refine va_alen (v := iI 1200) hx hb hK hP 0 0 rfl rfl rfl d_Na_copyDigits_53 ?_
        refine ed_icmp_ge (tgt := 66) hx hb d_Na_copyDigits_54 rfl (by omega) (by omega) (fun h_4 => ?_) (fun h_4 => ?_)
        · skip
          refine ed_pc (pc' := 66) rfl ?_
          refine lv_iinc (k := 5) (v := iI (zi + 1)) hx hb d_Na_copyDigits_66 hl rfl (iI_add _ _) (by decide) rfl (fun ls hl => ?_)
          have hl : lv_has ls 6 [(4, .int (iI (zi + 1))), (5, .int (iI (((((dl V : Nat) : Int)) - (1)) - (zi)))), (3, .int (iI (((rd V i : Nat) : Int)))), (0, .ref q), (1, .ref pr), (2, .int (iI (((dl V : Nat) : Int))))] := hl
          refine lv_goto (tgt := 10) hx hb d_Na_copyDigits_69 rfl ?_
          have hl := lv_sub hl [3, 4, 5, 2, 0] rfl
          exact ih _ (by omega) (i + 1) (rd V i) (h) _ _ ls H locs rfl (by omega) (rfl) (rd_lt V i) (fun _ => by rw [Nat.add_sub_cancel]) (by omega) (cp_n hh (by omega)) hl hP hD hS
        · skip
          refine ed_pc (pc' := 57) rfl ?_
          refine lv_aload_n hx hb d_Na_copyDigits_57 rfl (lv_at hl 3 rfl) ?_
          refine lv_iload hx hb d_Na_copyDigits_58 (lv_at hl 0 rfl) ?_
          refine lv_iload_n hx hb d_Na_copyDigits_60 rfl (lv_at hl 1 rfl) ?_
          refine lv_bipush (v := iI 10) hx hb d_Na_copyDigits_61 (by decide +kernel) ?_
          refine ed_irem hx hb d_Na_copyDigits_63 (by omega) (by omega) (by omega) ?_
          refine ed_i2b hx hb d_Na_copyDigits_64 (by omega) ?_
          refine ed_pc (pc' := 65) rfl ?_
          refine ed_bast hx hb hK hP hD hS 0 0 rfl rfl (dl V - 1 - i) (by omega) (by omega) (by decide) (by omega) d_Na_copyDigits_65 (fun H locs hP hD hS => ?_)
          have hP : va_P D ecl [(pr, .inl (cB, 1200, .inl (upd h (dl V - 1 - i) ((iI ((((rd V i : Nat) : Int)) % (10))))))), (q, .inr (0, [.ref pa, .int (iI ((sz : Int)))])), (pa, .inl (cI, 306, .inl f))] H := hP
          have hD : va_D A [(pr, .inl (cB, 1200, .inl (upd h (dl V - 1 - i) ((iI ((((rd V i : Nat) : Int)) % (10))))))), (q, .inr (0, [.ref pa, .int (iI ((sz : Int)))])), (pa, .inl (cI, 306, .inl f))] := hD
          refine lv_iinc (k := 5) (v := iI (zi + 1)) hx hb d_Na_copyDigits_66 hl rfl (iI_add _ _) (by decide) rfl (fun ls hl => ?_)
          have hl : lv_has ls 6 [(4, .int (iI (zi + 1))), (5, .int (iI (((((dl V : Nat) : Int)) - (1)) - (zi)))), (3, .int (iI (((rd V i : Nat) : Int)))), (0, .ref q), (1, .ref pr), (2, .int (iI (((dl V : Nat) : Int))))] := hl
          refine lv_goto (tgt := 10) hx hb d_Na_copyDigits_69 rfl ?_
          have hl := lv_sub hl [3, 4, 5, 2, 0] rfl
          exact ih _ (by omega) (i + 1) (rd V i) (_) _ _ ls H locs rfl (by omega) (rfl) (rd_lt V i) (fun _ => by rw [Nat.add_sub_cancel]) (by omega) (cp_s hh (by omega) (by rw [← rd_d]; rfl)) hl hP hD hS
  refine lv_aload_n hx hb d_Na_copyDigits_0 rfl (lv_at hl 0 rfl) ?_
  refine c_fi (wc := [(q, .inr (0, [.ref pa, .int (iI ((sz : Int)))])), (pa, .inl (cI, 306, .inl f))]) (wr := [(pr, .inl (cB, 1200, .inl g))]) (va_runV (C := "ExactDigits$Natural") (As := []) (rest := []) ⟨hx, hb, hml, hown, hts⟩ (c_Na_length l D cB cI cJ t5 ad q pa f sz V hV s.heap.size) (cwV 0 hts (gV tw_78 tw_71 tw_72 tw_2 tw_73) rfl rfl rfl (by decide +kernel) ⟨Nat.le_of_ble_eq_true rfl, Nat.le_of_ble_eq_true rfl⟩) ⟨c_blind (eX_X t5 ad), va_recv (ci := 0) (q0 := 0) hK hP rfl rfl, fun U hU hW => c_pre (wc := [(q, .inr (0, [.ref pa, .int (iI ((sz : Int)))])), (pa, .inl (cI, 306, .inl f))]) (eX_X t5 ad) hE hK hP hD hS hA [0, 1] rfl (by decide) U hU hW⟩ rfl rfl hl.1 rfl (lv_room (Nat.le_of_ble_eq_true rfl)) d_Na_copyDigits_1 ⟨Nat.le_of_ble_eq_true rfl, Nat.le_of_ble_eq_true rfl⟩) hP hD hS hA [0, 1] [2] rfl rfl (by decide) (by decide) (fun r u H locs hp hP hD hS => ?_)
  obtain ⟨rfl, rfl⟩ := hp
  have hP : va_P D ecl [(pr, .inl (cB, 1200, .inl g)), (q, .inr (0, [.ref pa, .int (iI ((sz : Int)))])), (pa, .inl (cI, 306, .inl f))] H := hP
  have hD : va_D A [(pr, .inl (cB, 1200, .inl g)), (q, .inr (0, [.ref pa, .int (iI ((sz : Int)))])), (pa, .inl (cI, 306, .inl f))] := hD
  refine lv_istore_n hx hb d_Na_copyDigits_4 rfl hl (by decide) rfl (fun ls hl => ?_)
  have hl : lv_has ls 6 [(2, .int (iI (((dl V : Nat) : Int)))), (0, .ref q), (1, .ref pr)] := hl
  refine lv_iconst (v := iI 0) hx hb d_Na_copyDigits_5 rfl ?_
  refine lv_istore_n hx hb d_Na_copyDigits_6 rfl hl (by decide) rfl (fun ls hl => ?_)
  have hl : lv_has ls 6 [(3, .int (iI (0))), (2, .int (iI (((dl V : Nat) : Int)))), (0, .ref q), (1, .ref pr)] := hl
  refine lv_iconst (v := iI 0) hx hb d_Na_copyDigits_7 rfl ?_
  refine lv_istore hx hb d_Na_copyDigits_8 hl (by decide) rfl (fun ls hl => ?_)
  have hl : lv_has ls 6 [(4, .int (iI (0))), (3, .int (iI (0))), (2, .int (iI (((dl V : Nat) : Int)))), (0, .ref q), (1, .ref pr)] := hl
  have hl := lv_sub hl [3, 4, 2, 1, 0] rfl
  exact L10 _ (0) (0) (g) _ _ ls H locs rfl (rfl) (rfl) (by omega) (fun z => absurd rfl z) (by omega) (fun j h1 h2 _ => by omega) hl hP hD hS
end
section
set_option maxHeartbeats 4000000 in
set_option maxRecDepth 100000 in
/-- digitAt(place) -/
theorem c_Na_digitAt (l : Launch) (D : va_G) (cB cI cJ : ClassId) (t5 : Nat) (ad : Nat → Nat) (q pa : Nat) (f : Nat → Int32) (sz V p0 : Nat) (hV : nt_ok f sz V) (hp : p0 < dl V) : c_I l m_Na_digitAt (Cond.code m_Na_digitAt b_Na_digitAt 4 (some .int) :: gw) (rm_ 0 0) (eX t5 ad) D ecl (tyS cB cI cJ) [.ref q, .int (iI ((p0 : Int)))] [(q, .inr (0, [.ref pa, .int (iI ((sz : Int)))])), (pa, .inl (cI, 306, .inl f))] (fun r u => r = iI ((V / 10 ^ p0 % 10 : Nat) : Int) ∧ u = [(q, .inr (0, [.ref pa, .int (iI ((sz : Int)))])), (pa, .inl (cI, 306, .inl f))]) 0 0 := by
  intro sz0
  refine Met.ofW (cc := b_Na_digitAt) (maxL := 4) (ret := (some .int)) (by decide) rfl ?_
  intro p e s m args below meth c s₁ B hml hv
  obtain ⟨rfl, hsz, hP, hK, hD0, hE⟩ := hv
  have hx := B.exec
  have hb := B.bytes
  have hr := B.returns
  have hts := atoms_spec (ws := Cond.code m_Na_digitAt b_Na_digitAt 4 (some .int) :: gw) B.pre
  have hown : s.vm.findClass R_Na = some m.cls := findClass_of_methodNamed B.named
  have hlocks := B.notSynchronized
  subst hsz
  have hD := hD0.self (sz := s.heap.size)
  generalize hAe : va_A [(q, .inr (0, [.ref pa, .int (iI ((sz : Int)))])), (pa, .inl (cI, 306, .inl f))] s.heap.size = A at hD hE ⊢
  have hA : ∀ q : Nat, s.heap.size ≤ q → A q := fun q h => by rw [← hAe]; exact Or.inr h
  have hS : va_S A s.heap s.heap [] := va_S.rf
  have hl := lv_entry ([.ref q, .int (iI ((p0 : Int)))]) (n := 4) (Nat.le_of_ble_eq_true rfl)
  rw [lg_entry_eq]
  generalize (lg_sl ([.ref q, .int (iI ((p0 : Int)))]) ++ List.replicate (4 - (lg_sl ([.ref q, .int (iI ((p0 : Int)))])).length) Slot.unset).toArray = ls at hl ⊢
  have hl : lv_has ls 4 [(0, .ref q), (1, .int (iI ((p0 : Int))))] := hl
  have hdl : dl V ≤ 2754 := by
    have hV2 := hV.2.1
    rw [pB_10] at hV2
    exact dl_bound (Nat.lt_of_lt_of_le hV2 (p10_le (by have := hV.1; omega)))
  have hpi := nt_pl hV hp
  have hs306 := hV.1
  have L15 : ∀ (n9 : Nat) (i : Nat) (x : Nat) (zi : Int) (zx : Int) (ls : Array Slot) (H : Heap) (locs : List Loc), i = n9 → (zi = (i : Int)) → (zx = (x : Int)) → (x < 1000000000) → (i < 9) → (x / 10 ^ i = rd V p0) → lv_has ls 4 [(0, .ref q), (2, .int (iI (zx))), (3, .int (iI (zi)))] → va_P D ecl [(q, .inr (0, [.ref pa, .int (iI ((sz : Int)))])), (pa, .inl (cI, 306, .inl f))] H → va_D A [(q, .inr (0, [.ref pa, .int (iI ((sz : Int)))])), (pa, .inl (cI, 306, .inl f))] → va_S A s.heap H locs → W p l e (headSpec (Cond.code m_Na_digitAt b_Na_digitAt 4 (some .int) :: gw) (rm_ 0 0)).room s m ([.ref q, .int (iI ((p0 : Int)))] : List Value).toArray below meth c H locs 0 0 (MQ below (va_Qi (fun r u => r = iI ((V / 10 ^ p0 % 10 : Nat) : Int) ∧ u = [(q, .inr (0, [.ref pa, .int (iI ((sz : Int)))])), (pa, .inl (cI, 306, .inl f))]) (c_B D ecl A) A) ([.ref q, .int (iI ((p0 : Int)))] : List Value).toArray s 0 0 A) (F0 m 15 ls []) := by
    intro n9
    induction n9 using Nat.strongRecOn with
    | ind n9 ih =>
    intro i x zi zx ls H locs hn9 hi hzx hx9 hi9 hxr hl hP hD hS
    refine lv_iload_n hx hb d_Na_digitAt_15 rfl (lv_at hl 2 rfl) ?_
    refine ed_if_le (tgt := 30) hx hb d_Na_digitAt_16 rfl (by omega) (fun h_1 => ?_) (fun h_1 => ?_)
    · skip
      refine ed_pc (pc' := 30) rfl ?_
      refine lv_iload_n hx hb d_Na_digitAt_30 rfl (lv_at hl 1 rfl) ?_
      refine lv_bipush (v := iI 10) hx hb d_Na_digitAt_31 (by decide +kernel) ?_
      refine ed_irem hx hb d_Na_digitAt_33 (by omega) (by omega) (by omega) ?_
      have hi0 : i = 0 := by omega
      rw [hi0, Nat.pow_zero, Nat.div_one] at hxr
      refine ed_tz (y := ((V / 10 ^ p0 % 10 : Nat) : Int)) (by rw [← rd_d, ← hxr]; omega) ?_
      exact W.iret (v := (iI (((V / 10 ^ p0 % 10 : Nat) : Int)))) hx hb hr (fun t9 ht9 hW9 => ⟨⟨(iI (((V / 10 ^ p0 % 10 : Nat) : Int))), [(q, .inr (0, [.ref pa, .int (iI ((sz : Int)))])), (pa, .inl (cI, 306, .inl f))], rfl, ⟨rfl, rfl⟩, by rw [ht9]; exact hP, hD⟩, hS.F ht9⟩) hS.2.2 d_Na_digitAt_34
    · skip
      refine ed_pc (pc' := 19) rfl ?_
      refine lv_iload_n hx hb d_Na_digitAt_19 rfl (lv_at hl 1 rfl) ?_
      refine lv_bipush (v := iI 10) hx hb d_Na_digitAt_20 (by decide +kernel) ?_
      refine ed_idiv hx hb d_Na_digitAt_22 (by omega) (by omega) (by omega) ?_
      refine lv_istore_n hx hb d_Na_digitAt_23 rfl hl (by decide) rfl (fun ls hl => ?_)
      have hl : lv_has ls 4 [(2, .int (iI ((zx) / (10)))), (0, .ref q), (3, .int (iI (zi)))] := hl
      refine lv_iinc (k := 2) (v := iI (zi + (-1))) hx hb d_Na_digitAt_24 hl rfl (iI_add _ _) (by decide) rfl (fun ls hl => ?_)
      have hl : lv_has ls 4 [(3, .int (iI (zi + (-1)))), (2, .int (iI ((zx) / (10)))), (0, .ref q)] := hl
      refine ed_pc (pc' := 27) rfl ?_
      refine lv_goto (tgt := 15) hx hb d_Na_digitAt_27 rfl ?_
      have hl := lv_sub hl [2, 1, 0] rfl
      exact ih _ (by omega) (i - 1) (x / 10) _ _ ls H locs rfl (by omega) (by omega) (by omega) (by omega) (by rw [Nat.div_div_eq_div_mul, ← Nat.pow_succ', ← hxr]; congr 2; omega) hl hP hD hS
  refine lv_aload_n hx hb d_Na_digitAt_0 rfl (lv_at hl 0 rfl) ?_
  refine va_get (D := D) (ci := 0) (v := .ref pa) (C := R_Na) (T := T_Na) (N := 2) hx hb hts (fun w h => List.mem_cons_of_mem _ (in_Na w h)) hown hK hP 0 rfl rfl 0 (by decide) (hts _ (List.mem_cons_of_mem _ tw_31)) (fun _ h9 => h9) rfl d_Na_digitAt_1 ?_
  refine lv_iload_n hx hb d_Na_digitAt_4 rfl (lv_at hl 1 rfl) ?_
  refine lv_bipush (v := iI 9) hx hb d_Na_digitAt_5 (by decide +kernel) ?_
  refine ed_idiv hx hb d_Na_digitAt_7 (by omega) (by omega) (by omega) ?_
  refine ed_iald (y := ((V / 1000000000 ^ (p0 / 9) % 1000000000 : Nat) : Int)) hx hb hK hP 1 1 rfl rfl (p0 / 9) (by omega) (by omega) (by decide) (hV.2.2.2 _ hpi) d_Na_digitAt_8 ?_
  refine lv_istore_n hx hb d_Na_digitAt_9 rfl hl (by decide) rfl (fun ls hl => ?_)
  have hl : lv_has ls 4 [(2, .int (iI (((V / 1000000000 ^ (p0 / 9) % 1000000000 : Nat) : Int)))), (0, .ref q), (1, .int (iI ((p0 : Int))))] := hl
  refine ed_pc (pc' := 10) rfl ?_
  refine lv_iload_n hx hb d_Na_digitAt_10 rfl (lv_at hl 2 rfl) ?_
  refine lv_bipush (v := iI 9) hx hb d_Na_digitAt_11 (by decide +kernel) ?_
  refine ed_irem hx hb d_Na_digitAt_13 (by omega) (by omega) (by omega) ?_
  refine lv_istore_n hx hb d_Na_digitAt_14 rfl hl (by decide) rfl (fun ls hl => ?_)
  have hl : lv_has ls 4 [(3, .int (iI (((p0 : Int)) % (9)))), (2, .int (iI (((V / 1000000000 ^ (p0 / 9) % 1000000000 : Nat) : Int)))), (0, .ref q), (1, .int (iI ((p0 : Int))))] := hl
  have hl := lv_sub hl [2, 1, 0] rfl
  exact L15 _ (p0 % 9) (V / 1000000000 ^ (p0 / 9) % 1000000000) _ _ ls s.heap [] rfl (by omega) (rfl) (nb_lt V _) (by omega) (rfl) hl hP hD hS
set_option maxHeartbeats 4000000 in
set_option maxRecDepth 100000 in
/-- firstDigits(n) -/
theorem c_Na_firstDigits (l : Launch) (D : va_G) (cB cI cJ : ClassId) (t5 : Nat) (ad : Nat → Nat) (q pa : Nat) (f : Nat → Int32) (sz V : Nat) (n : Int) (hn : -1000000 ≤ n ∧ n ≤ 1000000) (hV : nt_ok f sz V) (hb9 : fd V n.toNat < 9223372036854775808) : c_L l m_Na_firstDigits (Cond.code m_Na_firstDigits b_Na_firstDigits 6 (some .long) :: gw) (rm_ 1 23) (eX t5 ad) D ecl (tyS cB cI cJ) [.ref q, .int (iI (n))] [(q, .inr (0, [.ref pa, .int (iI ((sz : Int)))])), (pa, .inl (cI, 306, .inl f))] (fun r u => r = jI ((fd V n.toNat : Nat) : Int) ∧ u = [(q, .inr (0, [.ref pa, .int (iI ((sz : Int)))])), (pa, .inl (cI, 306, .inl f))]) 0 0 := by
  intro sz0
  refine Met.ofW (cc := b_Na_firstDigits) (maxL := 6) (ret := (some .long)) (by decide) rfl ?_
  intro p e s m args below meth c s₁ B hml hv
  obtain ⟨rfl, hsz, hP, hK, hD0, hE⟩ := hv
  have hx := B.exec
  have hb := B.bytes
  have hr := B.returns
  have hts := atoms_spec (ws := Cond.code m_Na_firstDigits b_Na_firstDigits 6 (some .long) :: gw) B.pre
  have hown : s.vm.findClass R_Na = some m.cls := findClass_of_methodNamed B.named
  have hlocks := B.notSynchronized
  subst hsz
  have hD := hD0.self (sz := s.heap.size)
  generalize hAe : va_A [(q, .inr (0, [.ref pa, .int (iI ((sz : Int)))])), (pa, .inl (cI, 306, .inl f))] s.heap.size = A at hD hE ⊢
  have hA : ∀ q : Nat, s.heap.size ≤ q → A q := fun q h => by rw [← hAe]; exact Or.inr h
  have hS : va_S A s.heap s.heap [] := va_S.rf
  have hl := lv_entry ([.ref q, .int (iI (n))]) (n := 6) (Nat.le_of_ble_eq_true rfl)
  rw [lg_entry_eq]
  generalize (lg_sl ([.ref q, .int (iI (n))]) ++ List.replicate (6 - (lg_sl ([.ref q, .int (iI (n))])).length) Slot.unset).toArray = ls at hl ⊢
  have hl : lv_has ls 6 [(0, .ref q), (1, .int (iI (n)))] := hl
  have hdl : dl V ≤ 2754 := by
    have hV2 := hV.2.1
    rw [pB_10] at hV2
    exact dl_bound (Nat.lt_of_lt_of_le hV2 (p10_le (by have := hV.1; omega)))
  have L10 : ∀ (n9 : Nat) (i : Nat) (x : Nat) (zi : Int) (zx : Int) (ls : Array Slot) (H : Heap) (locs : List Loc), n.toNat - i = n9 → (zi = (i : Int)) → (zx = (x : Int)) → (x = fd V i) → (i ≤ n.toNat) → lv_has ls 6 [(0, .ref q), (1, .int (iI (n))), (2, .int (iI (((dl V : Nat) : Int)))), (3, .long (jI (zx))), (5, .int (iI (zi)))] → va_P D ecl [(q, .inr (0, [.ref pa, .int (iI ((sz : Int)))])), (pa, .inl (cI, 306, .inl f))] H → va_D A [(q, .inr (0, [.ref pa, .int (iI ((sz : Int)))])), (pa, .inl (cI, 306, .inl f))] → va_S A s.heap H locs → W p l e (headSpec (Cond.code m_Na_firstDigits b_Na_firstDigits 6 (some .long) :: gw) (rm_ 1 23)).room s m ([.ref q, .int (iI (n))] : List Value).toArray below meth c H locs 0 0 (MQ below (va_Ql (fun r u => r = jI ((fd V n.toNat : Nat) : Int) ∧ u = [(q, .inr (0, [.ref pa, .int (iI ((sz : Int)))])), (pa, .inl (cI, 306, .inl f))]) (c_B D ecl A) A) ([.ref q, .int (iI (n))] : List Value).toArray s 0 0 A) (F0 m 10 ls []) := by
    intro n9
    induction n9 using Nat.strongRecOn with
    | ind n9 ih =>
    intro i x zi zx ls H locs hn9 hi hzx hxr hin hl hP hD hS
    refine lv_iload hx hb d_Na_firstDigits_10 (lv_at hl 4 rfl) ?_
    refine lv_iload_n hx hb d_Na_firstDigits_12 rfl (lv_at hl 1 rfl) ?_
    refine ed_icmp_ge (tgt := 50) hx hb d_Na_firstDigits_13 rfl (by omega) (by omega) (fun h_1 => ?_) (fun h_1 => ?_)
    · skip
      refine ed_pc (pc' := 50) rfl ?_
      refine lv_lload_n hx hb d_Na_firstDigits_50 rfl (lv_at hl 3 rfl) ?_
      have hie : i = n.toNat := by omega
      refine ed_tj (y := ((fd V n.toNat : Nat) : Int)) (by rw [hzx, hxr, hie]) ?_
      exact W.lret (v := (jI (((fd V n.toNat : Nat) : Int)))) hx hb hr (fun t9 ht9 hW9 => ⟨⟨(jI (((fd V n.toNat : Nat) : Int))), [(q, .inr (0, [.ref pa, .int (iI ((sz : Int)))])), (pa, .inl (cI, 306, .inl f))], rfl, ⟨rfl, rfl⟩, by rw [ht9]; exact hP, hD⟩, hS.F ht9⟩) hS.2.2 d_Na_firstDigits_51
    · skip
      refine ed_pc (pc' := 16) rfl ?_
      refine lv_lload_n hx hb d_Na_firstDigits_16 rfl (lv_at hl 3 rfl) ?_
      refine lv_ldc2 (v := 10) hx hb hown (hts _ (List.mem_cons_of_mem _ tw_132)) d_Na_firstDigits_17 ?_
      refine ed_tl (y := (jI (10))) (by decide +kernel) ?_
      refine ed_lmul hx hb d_Na_firstDigits_20 ?_
      refine lv_iload hx hb d_Na_firstDigits_21 (lv_at hl 4 rfl) ?_
      refine ed_pc (pc' := 23) rfl ?_
      refine lv_iload_n hx hb d_Na_firstDigits_23 rfl (lv_at hl 2 rfl) ?_
      refine ed_icmp_ge (tgt := 40) hx hb d_Na_firstDigits_24 rfl (by omega) (by omega) (fun h_2 => ?_) (fun h_2 => ?_)
      · skip
        refine ed_pc (pc' := 40) rfl ?_
        refine lv_iconst (v := iI 0) hx hb d_Na_firstDigits_40 rfl ?_
        refine ed_i2l hx hb d_Na_firstDigits_41 (by omega) ?_
        refine ed_ladd hx hb d_Na_firstDigits_42 ?_
        have hd0 := fd_z (show dl V ≤ i by omega)
        have hmn := fd_mono (V := V) (show i + 1 ≤ n.toNat by omega)
        refine ed_tj (y := ((fd V (i + 1) : Nat) : Int)) (by rw [hd0, hzx, hxr]; omega) ?_
        refine lv_lstore_n hx hb d_Na_firstDigits_43 rfl hl (by decide) rfl (fun ls hl => ?_)
        have hl : lv_has ls 6 [(3, .long (jI (((fd V (i + 1) : Nat) : Int)))), (0, .ref q), (1, .int (iI (n))), (2, .int (iI (((dl V : Nat) : Int)))), (5, .int (iI (zi)))] := hl
        refine lv_iinc (k := 4) (v := iI (zi + 1)) hx hb d_Na_firstDigits_44 hl rfl (iI_add _ _) (by decide) rfl (fun ls hl => ?_)
        have hl : lv_has ls 6 [(5, .int (iI (zi + 1))), (3, .long (jI (((fd V (i + 1) : Nat) : Int)))), (0, .ref q), (1, .int (iI (n))), (2, .int (iI (((dl V : Nat) : Int))))] := hl
        refine lv_goto (tgt := 10) hx hb d_Na_firstDigits_47 rfl ?_
        have hl := lv_sub hl [2, 3, 4, 1, 0] rfl
        exact ih _ (by omega) (i + 1) (fd V (i + 1)) _ _ ls H locs rfl (by omega) (rfl) (rfl) (by omega) hl hP hD hS
      · skip
        refine ed_pc (pc' := 27) rfl ?_
        refine lv_aload_n hx hb d_Na_firstDigits_27 rfl (lv_at hl 0 rfl) ?_
        refine lv_iload_n hx hb d_Na_firstDigits_28 rfl (lv_at hl 2 rfl) ?_
        refine lv_iconst (v := iI 1) hx hb d_Na_firstDigits_29 rfl ?_
        refine ed_isub hx hb d_Na_firstDigits_30 ?_
        refine lv_iload hx hb d_Na_firstDigits_31 (lv_at hl 4 rfl) ?_
        refine ed_isub hx hb d_Na_firstDigits_33 ?_
        refine ed_tz (y := ((dl V - 1 - i : Nat) : Int)) (by omega) ?_
        refine ed_pc (pc' := 34) rfl ?_
        refine c_fi (wc := [(q, .inr (0, [.ref pa, .int (iI ((sz : Int)))])), (pa, .inl (cI, 306, .inl f))]) (wr := []) (va_runV (C := "ExactDigits$Natural") (As := [.int (iI (((dl V - 1 - i : Nat) : Int)))]) (rest := [.long (jI ((zx) * (10)))]) ⟨hx, hb, hml, hown, hts⟩ (c_Na_digitAt l D cB cI cJ t5 ad q pa f sz V (dl V - 1 - i) hV (by omega) H.size) (cwV 1 hts (gV tw_133 tw_135 ts_4 tw_2 tw_136) rfl rfl rfl (by decide +kernel) ⟨Nat.le_of_ble_eq_true rfl, Nat.le_of_ble_eq_true rfl⟩) ⟨c_blind (eX_X t5 ad), va_recv (ci := 0) (q0 := 0) hK hP rfl rfl, fun U hU hW => c_pre (wc := [(q, .inr (0, [.ref pa, .int (iI ((sz : Int)))])), (pa, .inl (cI, 306, .inl f))]) (eX_X t5 ad) hE hK hP hD hS hA [0, 1] rfl (by decide) U hU hW⟩ rfl rfl hl.1 rfl (lv_room (Nat.le_of_ble_eq_true rfl)) d_Na_firstDigits_34 ⟨Nat.le_of_ble_eq_true rfl, Nat.le_of_ble_eq_true rfl⟩) hP hD hS hA [0, 1] [] rfl rfl (by decide) (by decide) (fun r u H locs hp hP hD hS => ?_)
        obtain ⟨rfl, rfl⟩ := hp
        have hP : va_P D ecl [(q, .inr (0, [.ref pa, .int (iI ((sz : Int)))])), (pa, .inl (cI, 306, .inl f))] H := hP
        have hD : va_D A [(q, .inr (0, [.ref pa, .int (iI ((sz : Int)))])), (pa, .inl (cI, 306, .inl f))] := hD
        refine lv_goto (tgt := 41) hx hb d_Na_firstDigits_37 rfl ?_
        refine ed_i2l hx hb d_Na_firstDigits_41 (by omega) ?_
        refine ed_ladd hx hb d_Na_firstDigits_42 ?_
        have hd0 := fd_d (show i < dl V by omega)
        have hdl9 := dg_lt V (dl V - 1 - i)
        have hmn := fd_mono (V := V) (show i + 1 ≤ n.toNat by omega)
        refine ed_tj (y := ((fd V (i + 1) : Nat) : Int)) (by rw [hd0, hzx, hxr]; omega) ?_
        refine lv_lstore_n hx hb d_Na_firstDigits_43 rfl hl (by decide) rfl (fun ls hl => ?_)
        have hl : lv_has ls 6 [(3, .long (jI (((fd V (i + 1) : Nat) : Int)))), (0, .ref q), (1, .int (iI (n))), (2, .int (iI (((dl V : Nat) : Int)))), (5, .int (iI (zi)))] := hl
        refine lv_iinc (k := 4) (v := iI (zi + 1)) hx hb d_Na_firstDigits_44 hl rfl (iI_add _ _) (by decide) rfl (fun ls hl => ?_)
        have hl : lv_has ls 6 [(5, .int (iI (zi + 1))), (3, .long (jI (((fd V (i + 1) : Nat) : Int)))), (0, .ref q), (1, .int (iI (n))), (2, .int (iI (((dl V : Nat) : Int))))] := hl
        refine lv_goto (tgt := 10) hx hb d_Na_firstDigits_47 rfl ?_
        have hl := lv_sub hl [2, 3, 4, 1, 0] rfl
        exact ih _ (by omega) (i + 1) (fd V (i + 1)) _ _ ls H locs rfl (by omega) (rfl) (rfl) (by omega) hl hP hD hS
  refine lv_aload_n hx hb d_Na_firstDigits_0 rfl (lv_at hl 0 rfl) ?_
  refine c_fi (wc := [(q, .inr (0, [.ref pa, .int (iI ((sz : Int)))])), (pa, .inl (cI, 306, .inl f))]) (wr := []) (va_runV (C := "ExactDigits$Natural") (As := []) (rest := []) ⟨hx, hb, hml, hown, hts⟩ (c_Na_length l D cB cI cJ t5 ad q pa f sz V hV s.heap.size) (cwV 0 hts (gV tw_78 tw_71 tw_72 tw_2 tw_73) rfl rfl rfl (by decide +kernel) ⟨Nat.le_of_ble_eq_true rfl, Nat.le_of_ble_eq_true rfl⟩) ⟨c_blind (eX_X t5 ad), va_recv (ci := 0) (q0 := 0) hK hP rfl rfl, fun U hU hW => c_pre (wc := [(q, .inr (0, [.ref pa, .int (iI ((sz : Int)))])), (pa, .inl (cI, 306, .inl f))]) (eX_X t5 ad) hE hK hP hD hS hA [0, 1] rfl (by decide) U hU hW⟩ rfl rfl hl.1 rfl (lv_room (Nat.le_of_ble_eq_true rfl)) d_Na_firstDigits_1 ⟨Nat.le_of_ble_eq_true rfl, Nat.le_of_ble_eq_true rfl⟩) hP hD hS hA [0, 1] [] rfl rfl (by decide) (by decide) (fun r u H locs hp hP hD hS => ?_)
  obtain ⟨rfl, rfl⟩ := hp
  have hP : va_P D ecl [(q, .inr (0, [.ref pa, .int (iI ((sz : Int)))])), (pa, .inl (cI, 306, .inl f))] H := hP
  have hD : va_D A [(q, .inr (0, [.ref pa, .int (iI ((sz : Int)))])), (pa, .inl (cI, 306, .inl f))] := hD
  refine lv_istore_n hx hb d_Na_firstDigits_4 rfl hl (by decide) rfl (fun ls hl => ?_)
  have hl : lv_has ls 6 [(2, .int (iI (((dl V : Nat) : Int)))), (0, .ref q), (1, .int (iI (n)))] := hl
  refine lv_lconst (v := jI 0) hx hb d_Na_firstDigits_5 (by decide +kernel) ?_
  refine lv_lstore_n hx hb d_Na_firstDigits_6 rfl hl (by decide) rfl (fun ls hl => ?_)
  have hl : lv_has ls 6 [(3, .long (jI (0))), (2, .int (iI (((dl V : Nat) : Int)))), (0, .ref q), (1, .int (iI (n)))] := hl
  refine lv_iconst (v := iI 0) hx hb d_Na_firstDigits_7 rfl ?_
  refine lv_istore hx hb d_Na_firstDigits_8 hl (by decide) rfl (fun ls hl => ?_)
  have hl : lv_has ls 6 [(5, .int (iI (0))), (3, .long (jI (0))), (2, .int (iI (((dl V : Nat) : Int)))), (0, .ref q), (1, .int (iI (n)))] := hl
  have hl := lv_sub hl [3, 4, 2, 1, 0] rfl
  exact L10 _ (0) (0) _ _ ls H locs rfl (rfl) (rfl) (by rw [fd_0]) (by omega) hl hP hD hS
end
section
/-! the formats: numbers -/
def jz (k : Nat) : Nat := if k = 0 then 2046 else 254
theorem fz_all : ∀ k, k < 2 → (fbz k = 52 ∧ lez k = -1074 ∧ jz k = 2046 ∧ mkz k = 9223372036854775807 ∧ ifz k = 9218868437227405312) ∨ (fbz k = 23 ∧ lez k = -149 ∧ jz k = 254 ∧ mkz k = 2147483647 ∧ ifz k = 2139095040) := by decide
theorem ifz_eq : ∀ k, k < 2 → ifz k = (jz k + 1) * 2 ^ fbz k := by decide
theorem mkz_eq : ∀ k, k < 2 → mkz k = 2 ^ (if k = 0 then 63 else 31) - 1 := by decide
theorem mkz_and {k b : Nat} (hk : k < 2) (hb : b < 2 ^ 64) : lN b &&& jI ((mkz k : Nat) : Int) = jI ((b % (mkz k + 1) : Nat) : Int) := by
  have h : mkz k + 1 = 2 ^ (if k = 0 then 63 else 31) := by rw [mkz_eq k hk]; split <;> rfl
  rw [jI_nat, jI_nat, h, mkz_eq k hk]
  exact wb_mask hb (by split <;> decide)
/-- the significand that is meant -/
def sgz (k x : Nat) : Nat := if x < 2 ^ fbz k then x % 2 ^ fbz k else x % 2 ^ fbz k + 2 ^ fbz k
theorem shl_l {a k : Nat} (hk : k < 64) : jI (a : Int) <<< ((iI (k : Int)).toInt64 &&& 63) = jI ((a * 2 ^ k : Nat) : Int) := by
  rw [jI_nat, jI_nat, iI_nat]; exact wb_shl a hk
theorem shr_l {a k : Nat} (ha : a < 2 ^ 64) (hk : k < 64) : ((jI (a : Int)).toUInt64 >>> ((iI (k : Int)).toInt64.toUInt64 &&& Int64.toUInt64 63)).toInt64 = jI ((a / 2 ^ k : Nat) : Int) := by
  rw [jI_nat, jI_nat, iI_nat]; exact wb_shr ha hk
theorem and_m {a k : Nat} (ha : a < 2 ^ 64) (hk : k < 64) : jI (a : Int) &&& jI ((2 ^ k - 1 : Nat) : Int) = jI ((a % 2 ^ k : Nat) : Int) := by
  rw [jI_nat, jI_nat, jI_nat]; exact wb_mask ha hk
theorem or_p {a k : Nat} (hk : k < 63) (ha : a < 2 ^ k) : jI (a : Int) ||| jI ((2 ^ k : Nat) : Int) = jI ((a + 2 ^ k : Nat) : Int) := by
  have h1 : 2 ^ k < 2 ^ 63 := Nat.pow_lt_pow_right (by decide) hk
  have h2 : a ||| 2 ^ k = a + 2 ^ k := by
    have := Nat.two_pow_add_eq_or_of_lt ha 1
    rw [Nat.mul_one] at this
    rw [Nat.or_comm, ← this, Nat.add_comm]
  rw [jI_nat, jI_nat, jI_nat, wb_or (by omega) (by omega), h2]
theorem and_1 {a : Nat} (ha : a < 2 ^ 64) : jI (a : Int) &&& jI 1 = jI ((a % 2 : Nat) : Int) := by
  rw [jI_nat, jI_nat]; exact wb_a1 ha
end
section
set_option maxHeartbeats 4000000 in
set_option maxRecDepth 100000 in
theorem c_Fo_withoutSign (l : Launch) (D : va_G) (cB cI cJ : ClassId) (t5 : Nat) (ad : Nat → Nat) (kf x : Nat) (hkf : kf < 2) (hx64 : x < 2 ^ 64) : c_L l m_Fo_withoutSign (Cond.code m_Fo_withoutSign b_Fo_withoutSign 3 (some .long) :: gw) (rm_ 0 0) (eX t5 ad) D ecl (tyS cB cI cJ) [.ref (ad kf), .long (lN x)] [] (fun r u => r = jI ((x % (mkz kf + 1) : Nat) : Int) ∧ u = []) 0 0 := by
  intro sz0
  refine Met.ofW (cc := b_Fo_withoutSign) (maxL := 3) (ret := (some .long)) (by decide) rfl ?_
  intro p e s m args below meth c s₁ B hml hv
  obtain ⟨rfl, hsz, hP, hK, hD0, hE⟩ := hv
  have hx := B.exec
  have hb := B.bytes
  have hr := B.returns
  have hts := atoms_spec (ws := Cond.code m_Fo_withoutSign b_Fo_withoutSign 3 (some .long) :: gw) B.pre
  have hown : s.vm.findClass R_Fo = some m.cls := findClass_of_methodNamed B.named
  have hlocks := B.notSynchronized
  subst hsz
  have hD := hD0.self (sz := s.heap.size)
  generalize hAe : va_A [] s.heap.size = A at hD hE ⊢
  have hA : ∀ q : Nat, s.heap.size ≤ q → A q := fun q h => by rw [← hAe]; exact Or.inr h
  have hS : va_S A s.heap s.heap [] := va_S.rf
  have hl := lv_entry ([.ref (ad kf), .long (lN x)]) (n := 3) (Nat.le_of_ble_eq_true rfl)
  rw [lg_entry_eq]
  generalize (lg_sl ([.ref (ad kf), .long (lN x)]) ++ List.replicate (3 - (lg_sl ([.ref (ad kf), .long (lN x)])).length) Slot.unset).toArray = ls at hl ⊢
  have hl : lv_has ls 3 [(0, .ref (ad kf)), (1, .long (lN x))] := hl
  have hE0 := hE
  obtain ⟨hE1, hE2, hE3, hE4, hE5, hE6, hE7, hE8, hE9, hE10, hE11, hE12⟩ := hE0
  have hfz := fz_all kf hkf
  refine lv_lload_n hx hb d_Fo_withoutSign_0 rfl (lv_at hl 1 rfl) ?_
  refine lv_aload_n hx hb d_Fo_withoutSign_1 rfl (lv_at hl 0 rfl) ?_
  refine va_getX hx hb hE8 hkf hS hown (hts _ (List.mem_cons_of_mem _ tw_597)) (fun _ h9 => h9) d_Fo_withoutSign_2 ?_
  refine lv_land hx hb d_Fo_withoutSign_5 ?_
  refine ed_tl (y := (jI (((x % (mkz kf + 1) : Nat) : Int)))) (mkz_and hkf hx64) ?_
  exact W.lret (v := (jI (((x % (mkz kf + 1) : Nat) : Int)))) hx hb hr (fun t9 ht9 hW9 => ⟨⟨(jI (((x % (mkz kf + 1) : Nat) : Int))), [], rfl, ⟨rfl, rfl⟩, by rw [ht9]; exact hP, hD⟩, hS.F ht9⟩) hS.2.2 d_Fo_withoutSign_6
set_option maxHeartbeats 4000000 in
set_option maxRecDepth 100000 in
theorem c_Fo_significand (l : Launch) (D : va_G) (cB cI cJ : ClassId) (t5 : Nat) (ad : Nat → Nat) (kf x : Nat) (hkf : kf < 2) (hx63 : x < 9223372036854775808) : c_L l m_Fo_significand (Cond.code m_Fo_significand b_Fo_significand 7 (some .long) :: gw) (rm_ 0 0) (eX t5 ad) D ecl (tyS cB cI cJ) [.ref (ad kf), .long (jI ((x : Int)))] [] (fun r u => r = jI ((sgz kf x : Nat) : Int) ∧ u = []) 0 0 := by
  intro sz0
  refine Met.ofW (cc := b_Fo_significand) (maxL := 7) (ret := (some .long)) (by decide) rfl ?_
  intro p e s m args below meth c s₁ B hml hv
  obtain ⟨rfl, hsz, hP, hK, hD0, hE⟩ := hv
  have hx := B.exec
  have hb := B.bytes
  have hr := B.returns
  have hts := atoms_spec (ws := Cond.code m_Fo_significand b_Fo_significand 7 (some .long) :: gw) B.pre
  have hown : s.vm.findClass R_Fo = some m.cls := findClass_of_methodNamed B.named
  have hlocks := B.notSynchronized
  subst hsz
  have hD := hD0.self (sz := s.heap.size)
  generalize hAe : va_A [] s.heap.size = A at hD hE ⊢
  have hA : ∀ q : Nat, s.heap.size ≤ q → A q := fun q h => by rw [← hAe]; exact Or.inr h
  have hS : va_S A s.heap s.heap [] := va_S.rf
  have hl := lv_entry ([.ref (ad kf), .long (jI ((x : Int)))]) (n := 7) (Nat.le_of_ble_eq_true rfl)
  rw [lg_entry_eq]
  generalize (lg_sl ([.ref (ad kf), .long (jI ((x : Int)))]) ++ List.replicate (7 - (lg_sl ([.ref (ad kf), .long (jI ((x : Int)))])).length) Slot.unset).toArray = ls at hl ⊢
  have hl : lv_has ls 7 [(0, .ref (ad kf)), (1, .long (jI ((x : Int))))] := hl
  have hE0 := hE
  obtain ⟨hE1, hE2, hE3, hE4, hE5, hE6, hE7, hE8, hE9, hE10, hE11, hE12⟩ := hE0
  have hfz := fz_all kf hkf
  have hfb : fbz kf < 63 := by omega
  have hle : 2 ^ fbz kf ≤ 2 ^ 52 := Nat.pow_le_pow_right (by decide) (by omega)
  have hpp : 0 < 2 ^ fbz kf := p2_pos _
  have hml : x % 2 ^ fbz kf < 2 ^ fbz kf := Nat.mod_lt _ hpp
  obtain ⟨pw, hpw⟩ : ∃ pw : Nat, pw = 2 ^ fbz kf := ⟨_, rfl⟩
  obtain ⟨fr, hfr⟩ : ∃ fr : Nat, fr = x % 2 ^ fbz kf := ⟨_, rfl⟩
  rw [← hpw] at hle hpp
  rw [← hfr, ← hpw] at hml
  refine lv_lconst (v := jI 1) hx hb d_Fo_significand_0 (by decide +kernel) ?_
  refine lv_aload_n hx hb d_Fo_significand_1 rfl (lv_at hl 0 rfl) ?_
  refine va_getX hx hb hE6 hkf hS hown (hts _ (List.mem_cons_of_mem _ tw_599)) (fun _ h9 => h9) d_Fo_significand_2 ?_
  refine lv_lshl (v := (jI ((pw : Int)))) hx hb d_Fo_significand_5 (by rw [hpw]; exact (shl_l (a := 1) (k := fbz kf) (by omega)).trans (by rw [Nat.one_mul])) ?_
  refine lv_lstore_n hx hb d_Fo_significand_6 rfl hl (by decide) rfl (fun ls hl => ?_)
  have hl : lv_has ls 7 [(3, .long (jI ((pw : Int)))), (0, .ref (ad kf)), (1, .long (jI ((x : Int))))] := hl
  refine lv_lload_n hx hb d_Fo_significand_7 rfl (lv_at hl 2 rfl) ?_
  refine lv_lload_n hx hb d_Fo_significand_8 rfl (lv_at hl 0 rfl) ?_
  refine ed_pc (pc' := 9) rfl ?_
  refine lv_lconst (v := jI 1) hx hb d_Fo_significand_9 (by decide +kernel) ?_
  refine ed_lsub hx hb d_Fo_significand_10 ?_
  refine ed_tj (y := ((pw - 1 : Nat) : Int)) (by omega) ?_
  refine lv_land hx hb d_Fo_significand_11 ?_
  refine ed_tl (y := (jI ((fr : Int)))) (by rw [hfr, hpw]; exact and_m (by omega) (by omega)) ?_
  refine lv_lstore hx hb d_Fo_significand_12 hl (by decide) rfl (fun ls hl => ?_)
  have hl : lv_has ls 7 [(5, .long (jI ((fr : Int)))), (3, .long (jI ((pw : Int)))), (0, .ref (ad kf)), (1, .long (jI ((x : Int))))] := hl
  refine lv_lload_n hx hb d_Fo_significand_14 rfl (lv_at hl 3 rfl) ?_
  refine lv_lload_n hx hb d_Fo_significand_15 rfl (lv_at hl 1 rfl) ?_
  refine ed_lif_ge (tgt := 25) hx hb d_Fo_significand_16 d_Fo_significand_17 rfl (by omega) (by omega) (fun h_1 => ?_) (fun h_1 => ?_)
  · skip
    refine ed_pc (pc' := 25) rfl ?_
    refine lv_lload hx hb d_Fo_significand_25 (lv_at hl 0 rfl) ?_
    refine ed_pc (pc' := 27) rfl ?_
    refine lv_lload_n hx hb d_Fo_significand_27 rfl (lv_at hl 1 rfl) ?_
    refine lv_lor hx hb d_Fo_significand_28 ?_
    refine ed_tl (y := (jI (((fr + pw : Nat) : Int)))) (by rw [hpw]; exact or_p (by omega) (by rw [← hpw]; exact hml)) ?_
    exact W.lret (v := (jI (((fr + pw : Nat) : Int)))) hx hb hr (fun t9 ht9 hW9 => ⟨⟨(jI (((fr + pw : Nat) : Int))), [], rfl, ⟨by unfold sgz; rw [← hfr, ← hpw, if_neg (by omega)], rfl⟩, by rw [ht9]; exact hP, hD⟩, hS.F ht9⟩) hS.2.2 d_Fo_significand_29
  · skip
    refine ed_pc (pc' := 20) rfl ?_
    refine lv_lload hx hb d_Fo_significand_20 (lv_at hl 0 rfl) ?_
    refine ed_pc (pc' := 22) rfl ?_
    refine lv_goto (tgt := 29) hx hb d_Fo_significand_22 rfl ?_
    exact W.lret (v := (jI ((fr : Int)))) hx hb hr (fun t9 ht9 hW9 => ⟨⟨(jI ((fr : Int))), [], rfl, ⟨by unfold sgz; rw [← hfr, ← hpw, if_pos (by omega)], rfl⟩, by rw [ht9]; exact hP, hD⟩, hS.F ht9⟩) hS.2.2 d_Fo_significand_29
set_option maxHeartbeats 4000000 in
set_option maxRecDepth 100000 in
theorem c_Fo_exponent (l : Launch) (D : va_G) (cB cI cJ : ClassId) (t5 : Nat) (ad : Nat → Nat) (kf x : Nat) (hkf : kf < 2) (hxi : x < ifz kf) : c_I l m_Fo_exponent (Cond.code m_Fo_exponent b_Fo_exponent 4 (some .int) :: gw) (rm_ 1 21) (eX t5 ad) D ecl (tyS cB cI cJ) [.ref (ad kf), .long (jI ((x : Int)))] [] (fun r u => r = iI (lez kf + max (((x / 2 ^ fbz kf : Nat) : Int) - 1) 0) ∧ u = []) 0 0 := by
  intro sz0
  refine Met.ofW (cc := b_Fo_exponent) (maxL := 4) (ret := (some .int)) (by decide) rfl ?_
  intro p e s m args below meth c s₁ B hml hv
  obtain ⟨rfl, hsz, hP, hK, hD0, hE⟩ := hv
  have hx := B.exec
  have hb := B.bytes
  have hr := B.returns
  have hts := atoms_spec (ws := Cond.code m_Fo_exponent b_Fo_exponent 4 (some .int) :: gw) B.pre
  have hown : s.vm.findClass R_Fo = some m.cls := findClass_of_methodNamed B.named
  have hlocks := B.notSynchronized
  subst hsz
  have hD := hD0.self (sz := s.heap.size)
  generalize hAe : va_A [] s.heap.size = A at hD hE ⊢
  have hA : ∀ q : Nat, s.heap.size ≤ q → A q := fun q h => by rw [← hAe]; exact Or.inr h
  have hS : va_S A s.heap s.heap [] := va_S.rf
  have hl := lv_entry ([.ref (ad kf), .long (jI ((x : Int)))]) (n := 4) (Nat.le_of_ble_eq_true rfl)
  rw [lg_entry_eq]
  generalize (lg_sl ([.ref (ad kf), .long (jI ((x : Int)))]) ++ List.replicate (4 - (lg_sl ([.ref (ad kf), .long (jI ((x : Int)))])).length) Slot.unset).toArray = ls at hl ⊢
  have hl : lv_has ls 4 [(0, .ref (ad kf)), (1, .long (jI ((x : Int))))] := hl
  have hE0 := hE
  obtain ⟨hE1, hE2, hE3, hE4, hE5, hE6, hE7, hE8, hE9, hE10, hE11, hE12⟩ := hE0
  have hfz := fz_all kf hkf
  have hq : x / 2 ^ fbz kf < jz kf + 1 := by rw [Nat.div_lt_iff_lt_mul (p2_pos _), ← ifz_eq kf hkf]; exact hxi
  obtain ⟨fd0, hfd⟩ : ∃ fd0 : Nat, fd0 = x / 2 ^ fbz kf := ⟨_, rfl⟩
  rw [← hfd] at hq
  refine lv_lload_n hx hb d_Fo_exponent_0 rfl (lv_at hl 1 rfl) ?_
  refine lv_aload_n hx hb d_Fo_exponent_1 rfl (lv_at hl 0 rfl) ?_
  refine va_getX hx hb hE6 hkf hS hown (hts _ (List.mem_cons_of_mem _ tw_599)) (fun _ h9 => h9) d_Fo_exponent_2 ?_
  refine lv_lushr (v := (jI ((fd0 : Int)))) hx hb d_Fo_exponent_5 (by rw [hfd]; exact shr_l (by omega) (by omega)) ?_
  refine ed_l2i hx hb d_Fo_exponent_6 ?_
  refine lv_istore_n hx hb d_Fo_exponent_7 rfl hl (by decide) rfl (fun ls hl => ?_)
  have hl : lv_has ls 4 [(3, .int (iI ((fd0 : Int)))), (0, .ref (ad kf)), (1, .long (jI ((x : Int))))] := hl
  refine lv_aload_n hx hb d_Fo_exponent_8 rfl (lv_at hl 1 rfl) ?_
  refine ed_pc (pc' := 9) rfl ?_
  refine va_getX hx hb hE7 hkf hS hown (hts _ (List.mem_cons_of_mem _ tw_600)) (fun _ h9 => h9) d_Fo_exponent_9 ?_
  refine lv_iload_n hx hb d_Fo_exponent_12 rfl (lv_at hl 0 rfl) ?_
  refine lv_iconst (v := iI 1) hx hb d_Fo_exponent_13 rfl ?_
  refine ed_isub hx hb d_Fo_exponent_14 ?_
  refine lv_iconst (v := iI 0) hx hb d_Fo_exponent_15 rfl ?_
  refine ed_max hx hb (hml.trans hl.1.symm) hown (hts _ (List.mem_cons_of_mem _ tw_145)) (hts _ (List.mem_cons_of_mem _ tw_146)) (hts _ (List.mem_cons_of_mem _ tw_6)) (hts _ (List.mem_cons_of_mem _ tw_147)) (Nat.le_of_ble_eq_true rfl) (Nat.le_of_ble_eq_true rfl) (Nat.le_of_ble_eq_true rfl) (Nat.le_of_ble_eq_true rfl) (by omega) (by omega) d_Fo_exponent_16 ?_
  refine ed_iadd hx hb d_Fo_exponent_19 ?_
  exact W.iret (v := (iI ((lez kf) + (max (((fd0 : Int)) - (1)) (0))))) hx hb hr (fun t9 ht9 hW9 => ⟨⟨(iI ((lez kf) + (max (((fd0 : Int)) - (1)) (0)))), [], rfl, ⟨by rw [← hfd], rfl⟩, by rw [ht9]; exact hP, hD⟩, hS.F ht9⟩) hS.2.2 d_Fo_exponent_20
set_option maxHeartbeats 4000000 in
set_option maxRecDepth 100000 in
theorem c_Fo_bitsOf (l : Launch) (D : va_G) (cB cI cJ : ClassId) (t5 : Nat) (ad : Nat → Nat) (h : Nat) (hh : h < 9223372036854775808) : c_I l m_Fo_bitsOf (Cond.code m_Fo_bitsOf b_Fo_bitsOf 3 (some .int) :: gw) (rm_ 0 0) (eX t5 ad) D ecl (tyS cB cI cJ) [.long (jI ((h : Int)))] [] (fun r u => r = iI ((bl h : Nat) : Int) ∧ u = []) 0 0 := by
  intro sz0
  refine Met.ofW (cc := b_Fo_bitsOf) (maxL := 3) (ret := (some .int)) (by decide) rfl ?_
  intro p e s m args below meth c s₁ B hml hv
  obtain ⟨rfl, hsz, hP, hK, hD0, hE⟩ := hv
  have hx := B.exec
  have hb := B.bytes
  have hr := B.returns
  have hts := atoms_spec (ws := Cond.code m_Fo_bitsOf b_Fo_bitsOf 3 (some .int) :: gw) B.pre
  have hown : s.vm.findClass R_Fo = some m.cls := findClass_of_methodNamed B.named
  have hlocks := B.notSynchronized
  subst hsz
  have hD := hD0.self (sz := s.heap.size)
  generalize hAe : va_A [] s.heap.size = A at hD hE ⊢
  have hA : ∀ q : Nat, s.heap.size ≤ q → A q := fun q h => by rw [← hAe]; exact Or.inr h
  have hS : va_S A s.heap s.heap [] := va_S.rf
  have hl := lv_entry ([.long (jI ((h : Int)))]) (n := 3) (Nat.le_of_ble_eq_true rfl)
  rw [lg_entry_eq]
  generalize (lg_sl ([.long (jI ((h : Int)))]) ++ List.replicate (3 - (lg_sl ([.long (jI ((h : Int)))])).length) Slot.unset).toArray = ls at hl ⊢
  have hl : lv_has ls 3 [(0, .long (jI ((h : Int))))] := hl
  have hbl : bl h ≤ 63 := bl_bound hh
  have L2 : ∀ (n9 : Nat) (i : Nat) (zi : Int) (ls : Array Slot) (H : Heap) (locs : List Loc), 64 - i = n9 → (zi = (i : Int)) → (i ≤ bl h) → lv_has ls 3 [(0, .long (jI ((h : Int)))), (2, .int (iI (zi)))] → va_P D ecl [] H → va_D A [] → va_S A s.heap H locs → W p l e (headSpec (Cond.code m_Fo_bitsOf b_Fo_bitsOf 3 (some .int) :: gw) (rm_ 0 0)).room s m ([.long (jI ((h : Int)))] : List Value).toArray below meth c H locs 0 0 (MQ below (va_Qi (fun r u => r = iI ((bl h : Nat) : Int) ∧ u = []) (c_B D ecl A) A) ([.long (jI ((h : Int)))] : List Value).toArray s 0 0 A) (F0 m 2 ls []) := by
    intro n9
    induction n9 using Nat.strongRecOn with
    | ind n9 ih =>
    intro i zi ls H locs hn9 hi hib hl hP hD hS
    refine lv_iload_n hx hb d_Fo_bitsOf_2 rfl (lv_at hl 1 rfl) ?_
    refine lv_bipush (v := iI 64) hx hb d_Fo_bitsOf_3 (by decide +kernel) ?_
    refine ed_icmp_ge (tgt := 22) hx hb d_Fo_bitsOf_5 rfl (by omega) (by omega) (fun h_1 => ?_) (fun h_1 => ?_)
    · exact absurd h_1 (by omega)
    · skip
      refine ed_pc (pc' := 8) rfl ?_
      obtain ⟨hs, hhs⟩ : ∃ hs : Nat, hs = h / 2 ^ i := ⟨_, rfl⟩
      have hsb : hs ≤ h := by rw [hhs]; exact Nat.div_le_self _ _
      refine lv_lload_n hx hb d_Fo_bitsOf_8 rfl (lv_at hl 0 rfl) ?_
      refine lv_iload_n hx hb d_Fo_bitsOf_9 rfl (lv_at hl 1 rfl) ?_
      refine lv_lushr (v := (jI ((hs : Int)))) hx hb d_Fo_bitsOf_10 (by rw [hhs, hi]; exact shr_l (by omega) (by omega)) ?_
      refine lv_lconst (v := jI 0) hx hb d_Fo_bitsOf_11 (by decide +kernel) ?_
      refine ed_pc (pc' := 12) rfl ?_
      refine ed_lif_eq (tgt := 22) hx hb d_Fo_bitsOf_12 d_Fo_bitsOf_13 rfl (by omega) (by omega) (fun h_2 => ?_) (fun h_2 => ?_)
      · skip
        refine ed_pc (pc' := 22) rfl ?_
        refine lv_iload_n hx hb d_Fo_bitsOf_22 rfl (lv_at hl 1 rfl) ?_
        have hie : bl h ≤ i := by
          rw [bl_iff]
          rcases Nat.lt_or_ge h (2 ^ i) with z | z
          · exact z
          · have := Nat.div_pos z (p2_pos i); omega
        refine ed_tz (y := ((bl h : Nat) : Int)) (by omega) ?_
        exact W.iret (v := (iI (((bl h : Nat) : Int)))) hx hb hr (fun t9 ht9 hW9 => ⟨⟨(iI (((bl h : Nat) : Int))), [], rfl, ⟨rfl, rfl⟩, by rw [ht9]; exact hP, hD⟩, hS.F ht9⟩) hS.2.2 d_Fo_bitsOf_23
      · skip
        refine ed_pc (pc' := 16) rfl ?_
        have hib2 : ¬ bl h ≤ i := by
          rw [bl_iff]; intro z
          rw [Nat.div_eq_of_lt z] at hhs; omega
        refine lv_iinc (k := 1) (v := iI (zi + 1)) hx hb d_Fo_bitsOf_16 hl rfl (iI_add _ _) (by decide) rfl (fun ls hl => ?_)
        have hl : lv_has ls 3 [(2, .int (iI (zi + 1))), (0, .long (jI ((h : Int))))] := hl
        refine lv_goto (tgt := 2) hx hb d_Fo_bitsOf_19 rfl ?_
        have hl := lv_sub hl [1, 0] rfl
        exact ih _ (by omega) (i + 1) _ ls H locs rfl (by omega) (by omega) hl hP hD hS
  refine lv_iconst (v := iI 0) hx hb d_Fo_bitsOf_0 rfl ?_
  refine lv_istore_n hx hb d_Fo_bitsOf_1 rfl hl (by decide) rfl (fun ls hl => ?_)
  have hl : lv_has ls 3 [(2, .int (iI (0))), (0, .long (jI ((h : Int))))] := hl
  have hl := lv_sub hl [1, 0] rfl
  exact L2 _ (0) _ ls s.heap [] rfl (rfl) (by omega) hl hP hD hS
end
section
theorem nto_small {P M num t h rem dp : Nat} (hM : 0 < M) (ht : 0 < t) (hn : num = h * t + rem) (hr : rem < t) (hh : h < 2 ^ 62) (hd : 64 ≤ dp) (hX : P * (t * 2 ^ dp) = num * (M * 2 ^ 0)) : 2 * P < M := by
  rcases Nat.lt_or_ge (2 * P) M with z | z
  · exact z
  · exfalso
    rw [Nat.pow_zero, Nat.mul_one] at hX
    have h1 : num < 2 ^ 62 * t := by
      have : (h + 1) * t ≤ 2 ^ 62 * t := Nat.mul_le_mul_right _ hh
      rw [Nat.add_mul, Nat.one_mul] at this
      omega
    have h2 : num * M < 2 ^ 62 * t * M := Nat.mul_lt_mul_of_pos_right h1 hM
    have h3 : 2 ^ 64 ≤ 2 ^ dp := Nat.pow_le_pow_right (by decide) hd
    have h4 : P * (t * 2 ^ 64) ≤ P * (t * 2 ^ dp) := Nat.mul_le_mul_left _ (Nat.mul_le_mul_left _ h3)
    have h5 : M * (t * 2 ^ 63) ≤ 2 * P * (t * 2 ^ 63) := Nat.mul_le_mul_right _ z
    have h6 : 2 * P * (t * 2 ^ 63) = P * (t * 2 ^ 64) := by
      rw [Nat.mul_comm 2 P, Nat.mul_assoc, Nat.mul_left_comm 2 t]
    have h7 : 2 ^ 62 * t * M ≤ M * (t * 2 ^ 63) := by
      have : 2 ^ 62 * t * M = M * (t * 2 ^ 62) := by rw [Nat.mul_comm, Nat.mul_comm (2 ^ 62)]
      rw [this]
      exact Nat.mul_le_mul_left _ (Nat.mul_le_mul_left _ (by decide))
    omega
theorem nt_q1 {h dp w : Nat} (hb : bl h ≤ dp + w) : h / 2 ^ dp < 2 ^ w := by
  rw [Nat.div_lt_iff_lt_mul (p2_pos _), ← Nat.pow_add, Nat.add_comm]
  exact Nat.lt_of_lt_of_le (bl_lt h) (Nat.pow_le_pow_right (by decide) hb)
theorem nt_q2 {h dp w : Nat} (hp : 0 < h) (hb : bl h = dp + w + 1) : 2 ^ w ≤ h / 2 ^ dp := by
  rw [Nat.le_div_iff_mul_le (p2_pos _), ← Nat.pow_add]
  have := bl_le hp
  rw [hb] at this
  have e : w + dp = dp + w + 1 - 1 := by omega
  rw [e]; exact this
theorem nt_main {kf P M num t h rem dp E q u half : Nat} {b : Prop} (hM : 0 < M) (ht : 0 < t) (hn : num = h * t + rem) (hr : rem < t) (hX : P * (t * 2 ^ dp) = num * (M * 2 ^ E)) (hdp1 : 1 ≤ dp) (hq : q = h / 2 ^ dp) (hhalf : half = 2 ^ (dp - 1))
    (hb1 : bl h ≤ dp + (fbz kf + 1)) (hb2 : 0 < E → bl h = dp + fbz kf + 1) (hp : 0 < h)
    (hu : (u = 1 ∧ (half < h - q * 2 ^ dp ∨ (half = h - q * 2 ^ dp ∧ ((b ∨ 0 < rem) ∨ q % 2 = 1)))) ∨ (u = 0 ∧ ¬ (half < h - q * 2 ^ dp ∨ (half = h - q * 2 ^ dp ∧ ((b ∨ 0 < rem) ∨ q % 2 = 1))))) :
    NR (fbz kf + 1) (ifz kf) P M b (min (ifz kf) (E * 2 ^ fbz kf + q + u)) := by
  have hd : 2 ^ dp = 2 * half := by rw [hhalf, ← Nat.pow_succ']; congr 1; omega
  have := NR_head (sz := fbz kf + 1) (inf := ifz kf) (b := b) hM ht hn hr hX hd hq (by rw [hq]; exact nt_q1 hb1) (fun z => by rw [hq, Nat.add_sub_cancel]; exact nt_q2 hp (hb2 z)) hu
  rw [Nat.add_sub_cancel] at this
  exact this
theorem nt_le {kf E q u : Nat} (hkf : kf < 2) (hE : E + 1 ≤ jz kf) (hq : q < 2 ^ (fbz kf + 1)) (hu : u ≤ 1) : E * 2 ^ fbz kf + q + u ≤ ifz kf := by
  rw [ifz_eq kf hkf]
  have h1 : (E + 1) * 2 ^ fbz kf ≤ jz kf * 2 ^ fbz kf := Nat.mul_le_mul_right _ hE
  rw [Nat.add_mul, Nat.one_mul] at h1
  rw [Nat.add_mul, Nat.one_mul]
  rw [Nat.pow_succ] at hq
  omega
theorem nt_ge {kf E q : Nat} (hkf : kf < 2) (hE : jz kf ≤ E) (hq : 2 ^ fbz kf ≤ q) : ifz kf ≤ E * 2 ^ fbz kf + q := by
  rw [ifz_eq kf hkf]
  have h1 : jz kf * 2 ^ fbz kf ≤ E * 2 ^ fbz kf := Nat.mul_le_mul_right _ hE
  rw [Nat.add_mul, Nat.one_mul]
  omega
theorem nt_inf {kf P M num t h rem dp E : Nat} {b : Prop} (hkf : kf < 2) (hM : 0 < M) (ht : 0 < t) (hn : num = h * t + rem) (hr : rem < t) (hX : P * (t * 2 ^ dp) = num * (M * 2 ^ E)) (hdp1 : 1 ≤ dp)
    (hb1 : bl h ≤ dp + (fbz kf + 1)) (hb2 : 0 < E → bl h = dp + fbz kf + 1) (hp : 0 < h) (hE : jz kf ≤ E) : NR (fbz kf + 1) (ifz kf) P M b (ifz kf) := by
  have hj : 0 < jz kf := by have := fz_all kf hkf; omega
  have hg := nt_ge (q := h / 2 ^ dp) hkf hE (nt_q2 hp (hb2 (by omega)))
  have c := Classical.em (2 ^ (dp - 1) < h - h / 2 ^ dp * 2 ^ dp ∨ (2 ^ (dp - 1) = h - h / 2 ^ dp * 2 ^ dp ∧ ((b ∨ 0 < rem) ∨ h / 2 ^ dp % 2 = 1)))
  rcases c with c | c
  · have := nt_main (kf := kf) (u := 1) hM ht hn hr hX hdp1 rfl rfl hb1 hb2 hp (Or.inl ⟨rfl, c⟩)
    rw [Nat.min_eq_left (by omega)] at this
    exact this
  · have := nt_main (kf := kf) (u := 0) hM ht hn hr hX hdp1 rfl rfl hb1 hb2 hp (Or.inr ⟨rfl, c⟩)
    rw [Nat.min_eq_left (by omega)] at this
    exact this
end
section
set_option maxHeartbeats 4000000 in
set_option maxRecDepth 100000 in
/-- nearestTo(head, more, exponent) -/
theorem c_Fo_nearestTo (l : Launch) (D : va_G) (cB cI cJ : ClassId) (t5 : Nat) (ad : Nat → Nat) (kf h : Nat) (zm ez : Int) (P M num t rem : Nat) (b : Prop) (hkf : kf < 2) (hh1 : 2 ^ 56 ≤ h) (hh2 : h < 2 ^ 62) (hez : -3000 ≤ ez ∧ ez ≤ 3000) (hM : 0 < M) (ht : 0 < t) (hn : num = h * t + rem) (hrm : rem < t) (hzm : (zm = 1 ∧ (b ∨ 0 < rem)) ∨ (zm = 0 ∧ ¬ (b ∨ 0 < rem))) (hXX : ∀ dp E : Nat, (E : Int) = ez + dp - lez kf → P * (t * 2 ^ dp) = num * (M * 2 ^ E)) : c_L l m_Fo_nearestTo (Cond.code m_Fo_nearestTo b_Fo_nearestTo 15 (some .long) :: gw) (rm_ 1 22) (eX t5 ad) D ecl (tyS cB cI cJ) [.ref (ad kf), .long (jI ((h : Int))), .int (iI (zm)), .int (iI (ez))] [] (fun r u => (∃ rn : Nat, r = jI (rn : Int) ∧ NR (fbz kf + 1) (ifz kf) P M b rn) ∧ u = []) 0 0 := by
  intro sz0
  refine Met.ofW (cc := b_Fo_nearestTo) (maxL := 15) (ret := (some .long)) (by decide) rfl ?_
  intro p e s m args below meth c s₁ B hml hv
  obtain ⟨rfl, hsz, hP, hK, hD0, hE⟩ := hv
  have hx := B.exec
  have hb := B.bytes
  have hr := B.returns
  have hts := atoms_spec (ws := Cond.code m_Fo_nearestTo b_Fo_nearestTo 15 (some .long) :: gw) B.pre
  have hown : s.vm.findClass R_Fo = some m.cls := findClass_of_methodNamed B.named
  have hlocks := B.notSynchronized
  subst hsz
  have hD := hD0.self (sz := s.heap.size)
  generalize hAe : va_A [] s.heap.size = A at hD hE ⊢
  have hA : ∀ q : Nat, s.heap.size ≤ q → A q := fun q h => by rw [← hAe]; exact Or.inr h
  have hS : va_S A s.heap s.heap [] := va_S.rf
  have hl := lv_entry ([.ref (ad kf), .long (jI ((h : Int))), .int (iI (zm)), .int (iI (ez))]) (n := 15) (Nat.le_of_ble_eq_true rfl)
  rw [lg_entry_eq]
  generalize (lg_sl ([.ref (ad kf), .long (jI ((h : Int))), .int (iI (zm)), .int (iI (ez))]) ++ List.replicate (15 - (lg_sl ([.ref (ad kf), .long (jI ((h : Int))), .int (iI (zm)), .int (iI (ez))])).length) Slot.unset).toArray = ls at hl ⊢
  have hl : lv_has ls 15 [(0, .ref (ad kf)), (1, .long (jI ((h : Int)))), (3, .int (iI (zm))), (4, .int (iI (ez)))] := hl
  have hE0 := hE
  obtain ⟨hE1, hE2, hE3, hE4, hE5, hE6, hE7, hE8, hE9, hE10, hE11, hE12⟩ := hE0
  have hfz := fz_all kf hkf
  have hb57 : 56 < bl h := bl_ge hh1
  have hb62 : bl h ≤ 62 := bl_bound hh2
  obtain ⟨dp, hdp⟩ : ∃ dp : Nat, (dp : Int) = max (((bl h : Nat) : Int) - 1 - ((fbz kf : Nat) : Int)) (lez kf - ez) := ⟨(max (((bl h : Nat) : Int) - 1 - ((fbz kf : Nat) : Int)) (lez kf - ez)).toNat, by omega⟩
  obtain ⟨E, hEE⟩ : ∃ E : Nat, (E : Int) = ez + dp - lez kf := ⟨(ez + dp - lez kf).toNat, by omega⟩
  have hX := hXX dp E hEE
  clear hXX
  have hb1 : bl h ≤ dp + (fbz kf + 1) := by omega
  have hb2 : 0 < E → bl h = dp + fbz kf + 1 := fun z => by omega
  have hp0 : 0 < h := by omega
  have hd1 : 1 ≤ dp := by omega
  have L130 : ∀ (q : Nat) (u : Nat) (zu : Int) (ls : Array Slot) (H : Heap) (locs : List Loc), (q = h / 2 ^ dp) → (zu = (u : Int)) → (E + 1 ≤ jz kf) → (((u = 1 ∧ (2 ^ (dp - 1) < h - q * 2 ^ dp ∨ (2 ^ (dp - 1) = h - q * 2 ^ dp ∧ ((b ∨ 0 < rem) ∨ q % 2 = 1)))) ∨ (u = 0 ∧ ¬ (2 ^ (dp - 1) < h - q * 2 ^ dp ∨ (2 ^ (dp - 1) = h - q * 2 ^ dp ∧ ((b ∨ 0 < rem) ∨ q % 2 = 1)))))) → lv_has ls 15 [(0, .ref (ad kf)), (7, .int (iI ((E : Int)))), (8, .long (jI ((q : Int))))] → va_P D ecl [] H → va_D A [] → va_S A s.heap H locs → W p l e (headSpec (Cond.code m_Fo_nearestTo b_Fo_nearestTo 15 (some .long) :: gw) (rm_ 1 22)).room s m ([.ref (ad kf), .long (jI ((h : Int))), .int (iI (zm)), .int (iI (ez))] : List Value).toArray below meth c H locs 0 0 (MQ below (va_Ql (fun r u => (∃ rn : Nat, r = jI (rn : Int) ∧ NR (fbz kf + 1) (ifz kf) P M b rn) ∧ u = []) (c_B D ecl A) A) ([.ref (ad kf), .long (jI ((h : Int))), .int (iI (zm)), .int (iI (ez))] : List Value).toArray s 0 0 A) (F0 m 130 ls [.int (iI (zu))]) := by
    intro q u zu ls H locs hq hzu hEj hu hl hP hD hS
    refine lv_istore hx hb d_Fo_nearestTo_130 hl (by decide) rfl (fun ls hl => ?_)
    have hl : lv_has ls 15 [(14, .int (iI (zu))), (0, .ref (ad kf)), (7, .int (iI ((E : Int)))), (8, .long (jI ((q : Int))))] := hl
    have hq1 : q < 2 ^ (fbz kf + 1) := by rw [hq]; exact nt_q1 hb1
    have hu1 : u ≤ 1 := by omega
    have hNR := nt_main (kf := kf) (b := b) hM ht hn hrm hX hd1 hq rfl hb1 hb2 hp0 hu
    have hle := nt_le hkf hEj hq1 hu1
    rw [Nat.min_eq_right hle] at hNR
    obtain ⟨sf, hsf⟩ : ∃ sf : Nat, sf = E * 2 ^ fbz kf := ⟨_, rfl⟩
    rw [← hsf] at hNR hle
    refine lv_iload hx hb d_Fo_nearestTo_132 (lv_at hl 2 rfl) ?_
    refine ed_i2l hx hb d_Fo_nearestTo_134 (by omega) ?_
    refine lv_aload_n hx hb d_Fo_nearestTo_135 rfl (lv_at hl 1 rfl) ?_
    refine va_getX hx hb hE6 hkf hS hown (hts _ (List.mem_cons_of_mem _ tw_599)) (fun _ h9 => h9) d_Fo_nearestTo_136 ?_
    refine lv_lshl (v := (jI ((sf : Int)))) hx hb d_Fo_nearestTo_139 (by rw [hsf]; exact shl_l (by omega)) ?_
    refine lv_lload hx hb d_Fo_nearestTo_140 (lv_at hl 3 rfl) ?_
    refine ed_pc (pc' := 142) rfl ?_
    refine ed_ladd hx hb d_Fo_nearestTo_142 ?_
    refine lv_iload hx hb d_Fo_nearestTo_143 (lv_at hl 0 rfl) ?_
    refine ed_if_eq (tgt := 152) hx hb d_Fo_nearestTo_145 rfl (by omega) (fun h_1 => ?_) (fun h_1 => ?_)
    · skip
      refine ed_pc (pc' := 152) rfl ?_
      refine lv_iconst (v := iI 0) hx hb d_Fo_nearestTo_152 rfl ?_
      refine ed_i2l hx hb d_Fo_nearestTo_153 (by omega) ?_
      refine ed_ladd hx hb d_Fo_nearestTo_154 ?_
      exact W.lret (v := (jI ((((sf : Int)) + ((q : Int))) + (0)))) hx hb hr (fun t9 ht9 hW9 => ⟨⟨(jI ((((sf : Int)) + ((q : Int))) + (0))), [], rfl, ⟨⟨sf + q + u, by congr 1; omega, hNR⟩, rfl⟩, by rw [ht9]; exact hP, hD⟩, hS.F ht9⟩) hS.2.2 d_Fo_nearestTo_155
    · skip
      refine ed_pc (pc' := 148) rfl ?_
      refine lv_iconst (v := iI 1) hx hb d_Fo_nearestTo_148 rfl ?_
      refine lv_goto (tgt := 153) hx hb d_Fo_nearestTo_149 rfl ?_
      refine ed_i2l hx hb d_Fo_nearestTo_153 (by omega) ?_
      refine ed_ladd hx hb d_Fo_nearestTo_154 ?_
      exact W.lret (v := (jI ((((sf : Int)) + ((q : Int))) + (1)))) hx hb hr (fun t9 ht9 hW9 => ⟨⟨(jI ((((sf : Int)) + ((q : Int))) + (1))), [], rfl, ⟨⟨sf + q + u, by congr 1; omega, hNR⟩, rfl⟩, by rw [ht9]; exact hP, hD⟩, hS.F ht9⟩) hS.2.2 d_Fo_nearestTo_155
  refine lv_lload_n hx hb d_Fo_nearestTo_0 rfl (lv_at hl 1 rfl) ?_
  refine c_fi (wc := []) (wr := []) (va_runS (As := [.long (jI ((h : Int)))]) (rest := []) ⟨hx, hb, hml, hown, hts⟩ (c_Fo_bitsOf l D cB cI cJ t5 ad h (by omega) s.heap.size) (va_cwS 1 hts (gS tw_142 tw_143 tw_10 tw_144) rfl rfl rfl (by decide +kernel) ⟨Nat.le_of_ble_eq_true rfl, Nat.le_of_ble_eq_true rfl⟩) ⟨c_blind (eX_X t5 ad), fun U hU hW => c_pre (wc := []) (eX_X t5 ad) hE hK hP hD hS hA [] rfl (by decide) U hU hW⟩ rfl rfl hl.1 rfl (lv_room (Nat.le_of_ble_eq_true rfl)) d_Fo_nearestTo_1 ⟨Nat.le_of_ble_eq_true rfl, Nat.le_of_ble_eq_true rfl⟩) hP hD hS hA [] [] rfl rfl (by decide) (by decide) (fun r u H locs hp hP hD hS => ?_)
  obtain ⟨rfl, rfl⟩ := hp
  have hP : va_P D ecl [] H := hP
  have hD : va_D A [] := hD
  refine lv_iconst (v := iI 1) hx hb d_Fo_nearestTo_4 rfl ?_
  refine ed_isub hx hb d_Fo_nearestTo_5 ?_
  refine lv_aload_n hx hb d_Fo_nearestTo_6 rfl (lv_at hl 0 rfl) ?_
  refine va_getX hx hb hE6 hkf hS hown (hts _ (List.mem_cons_of_mem _ tw_599)) (fun _ h9 => h9) d_Fo_nearestTo_7 ?_
  refine ed_isub hx hb d_Fo_nearestTo_10 ?_
  refine ed_pc (pc' := 11) rfl ?_
  refine lv_istore hx hb d_Fo_nearestTo_11 hl (by decide) rfl (fun ls hl => ?_)
  have hl : lv_has ls 15 [(5, .int (iI (((((bl h : Nat) : Int)) - (1)) - (((fbz kf : Nat) : Int))))), (0, .ref (ad kf)), (1, .long (jI ((h : Int)))), (3, .int (iI (zm))), (4, .int (iI (ez)))] := hl
  refine lv_iload hx hb d_Fo_nearestTo_13 (lv_at hl 0 rfl) ?_
  refine lv_aload_n hx hb d_Fo_nearestTo_15 rfl (lv_at hl 1 rfl) ?_
  refine va_getX hx hb hE7 hkf hS hown (hts _ (List.mem_cons_of_mem _ tw_600)) (fun _ h9 => h9) d_Fo_nearestTo_16 ?_
  refine lv_iload hx hb d_Fo_nearestTo_19 (lv_at hl 4 rfl) ?_
  refine ed_isub hx hb d_Fo_nearestTo_21 ?_
  refine ed_max hx hb (hml.trans hl.1.symm) hown (hts _ (List.mem_cons_of_mem _ tw_145)) (hts _ (List.mem_cons_of_mem _ tw_146)) (hts _ (List.mem_cons_of_mem _ tw_6)) (hts _ (List.mem_cons_of_mem _ tw_147)) (Nat.le_of_ble_eq_true rfl) (Nat.le_of_ble_eq_true rfl) (Nat.le_of_ble_eq_true rfl) (Nat.le_of_ble_eq_true rfl) (by omega) (by omega) d_Fo_nearestTo_22 ?_
  refine ed_tz (y := (dp : Int)) (hdp.symm) ?_
  refine lv_istore hx hb d_Fo_nearestTo_25 hl (by decide) rfl (fun ls hl => ?_)
  have hl : lv_has ls 15 [(6, .int (iI ((dp : Int)))), (5, .int (iI (((((bl h : Nat) : Int)) - (1)) - (((fbz kf : Nat) : Int))))), (0, .ref (ad kf)), (1, .long (jI ((h : Int)))), (3, .int (iI (zm))), (4, .int (iI (ez)))] := hl
  refine ed_pc (pc' := 27) rfl ?_
  refine lv_iload hx hb d_Fo_nearestTo_27 (lv_at hl 5 rfl) ?_
  refine lv_iload hx hb d_Fo_nearestTo_29 (lv_at hl 0 rfl) ?_
  refine ed_iadd hx hb d_Fo_nearestTo_31 ?_
  refine lv_aload_n hx hb d_Fo_nearestTo_32 rfl (lv_at hl 2 rfl) ?_
  refine va_getX hx hb hE7 hkf hS hown (hts _ (List.mem_cons_of_mem _ tw_600)) (fun _ h9 => h9) d_Fo_nearestTo_33 ?_
  refine ed_isub hx hb d_Fo_nearestTo_36 ?_
  refine ed_tz (y := (E : Int)) (hEE.symm) ?_
  refine lv_istore hx hb d_Fo_nearestTo_37 hl (by decide) rfl (fun ls hl => ?_)
  have hl : lv_has ls 15 [(7, .int (iI ((E : Int)))), (6, .int (iI ((dp : Int)))), (5, .int (iI (((((bl h : Nat) : Int)) - (1)) - (((fbz kf : Nat) : Int))))), (0, .ref (ad kf)), (1, .long (jI ((h : Int)))), (3, .int (iI (zm))), (4, .int (iI (ez)))] := hl
  refine lv_iload hx hb d_Fo_nearestTo_39 (lv_at hl 1 rfl) ?_
  refine ed_pc (pc' := 41) rfl ?_
  refine lv_bipush (v := iI 63) hx hb d_Fo_nearestTo_41 (by decide +kernel) ?_
  refine ed_icmp_le (tgt := 48) hx hb d_Fo_nearestTo_43 rfl (by omega) (by omega) (fun h_2 => ?_) (fun h_2 => ?_)
  · skip
    refine ed_pc (pc' := 48) rfl ?_
    refine lv_iload hx hb d_Fo_nearestTo_48 (lv_at hl 0 rfl) ?_
    refine ed_i2l hx hb d_Fo_nearestTo_50 (by omega) ?_
    refine lv_aload_n hx hb d_Fo_nearestTo_51 rfl (lv_at hl 3 rfl) ?_
    refine va_getX hx hb hE9 hkf hS hown (hts _ (List.mem_cons_of_mem _ tw_601)) (fun _ h9 => h9) d_Fo_nearestTo_52 ?_
    refine lv_aload_n hx hb d_Fo_nearestTo_55 rfl (lv_at hl 3 rfl) ?_
    refine va_getX hx hb hE6 hkf hS hown (hts _ (List.mem_cons_of_mem _ tw_599)) (fun _ h9 => h9) d_Fo_nearestTo_56 ?_
    refine ed_pc (pc' := 59) rfl ?_
    refine lv_lushr (v := (jI (((jz kf + 1 : Nat) : Int)))) hx hb d_Fo_nearestTo_59 (by rw [shr_l (by omega) (by omega)]; congr 2; rw [ifz_eq kf hkf]; exact Nat.mul_div_cancel _ (p2_pos _)) ?_
    refine lv_ldc2 (v := 2) hx hb hown (hts _ (List.mem_cons_of_mem _ tw_148)) d_Fo_nearestTo_60 ?_
    refine ed_tl (y := (jI (2))) (by decide +kernel) ?_
    refine ed_lsub hx hb d_Fo_nearestTo_63 ?_
    refine ed_lif_le (tgt := 73) hx hb d_Fo_nearestTo_64 d_Fo_nearestTo_65 rfl (by omega) (by omega) (fun h_3 => ?_) (fun h_3 => ?_)
    · skip
      refine ed_pc (pc' := 73) rfl ?_
      obtain ⟨q, hq⟩ : ∃ q : Nat, q = h / 2 ^ dp := ⟨_, rfl⟩
      obtain ⟨kp, hkp⟩ : ∃ kp : Nat, kp = q * 2 ^ dp := ⟨_, rfl⟩
      have hkl : kp ≤ h := by rw [hkp, hq]; exact Nat.div_mul_le_self _ _
      have hql : q ≤ h := by rw [hq]; exact Nat.div_le_self _ _
      obtain ⟨hf, hhf⟩ : ∃ hf : Nat, hf = 2 ^ (dp - 1) := ⟨_, rfl⟩
      have hhl : hf ≤ 2 ^ 62 := by rw [hhf]; exact Nat.pow_le_pow_right (by decide) (by omega)
      refine lv_lload_n hx hb d_Fo_nearestTo_73 rfl (lv_at hl 4 rfl) ?_
      refine lv_iload hx hb d_Fo_nearestTo_74 (lv_at hl 1 rfl) ?_
      refine lv_lushr (v := (jI ((q : Int)))) hx hb d_Fo_nearestTo_76 (by rw [hq]; exact shr_l (by omega) (by omega)) ?_
      refine lv_lstore hx hb d_Fo_nearestTo_77 hl (by decide) rfl (fun ls hl => ?_)
      have hl : lv_has ls 15 [(8, .long (jI ((q : Int)))), (7, .int (iI ((E : Int)))), (6, .int (iI ((dp : Int)))), (5, .int (iI (((((bl h : Nat) : Int)) - (1)) - (((fbz kf : Nat) : Int))))), (0, .ref (ad kf)), (1, .long (jI ((h : Int)))), (3, .int (iI (zm))), (4, .int (iI (ez)))] := hl
      refine ed_pc (pc' := 79) rfl ?_
      refine lv_lload_n hx hb d_Fo_nearestTo_79 rfl (lv_at hl 5 rfl) ?_
      refine lv_lload hx hb d_Fo_nearestTo_80 (lv_at hl 0 rfl) ?_
      refine lv_iload hx hb d_Fo_nearestTo_82 (lv_at hl 2 rfl) ?_
      refine lv_lshl (v := (jI ((kp : Int)))) hx hb d_Fo_nearestTo_84 (by rw [hkp]; exact shl_l (by omega)) ?_
      refine ed_lsub hx hb d_Fo_nearestTo_85 ?_
      refine ed_tj (y := ((h - kp : Nat) : Int)) (by omega) ?_
      refine lv_lstore hx hb d_Fo_nearestTo_86 hl (by decide) rfl (fun ls hl => ?_)
      have hl : lv_has ls 15 [(10, .long (jI (((h - kp : Nat) : Int)))), (8, .long (jI ((q : Int)))), (7, .int (iI ((E : Int)))), (6, .int (iI ((dp : Int)))), (5, .int (iI (((((bl h : Nat) : Int)) - (1)) - (((fbz kf : Nat) : Int))))), (0, .ref (ad kf)), (1, .long (jI ((h : Int)))), (3, .int (iI (zm))), (4, .int (iI (ez)))] := hl
      refine lv_lconst (v := jI 1) hx hb d_Fo_nearestTo_88 (by decide +kernel) ?_
      refine lv_iload hx hb d_Fo_nearestTo_89 (lv_at hl 3 rfl) ?_
      refine ed_pc (pc' := 91) rfl ?_
      refine lv_iconst (v := iI 1) hx hb d_Fo_nearestTo_91 rfl ?_
      refine ed_isub hx hb d_Fo_nearestTo_92 ?_
      refine ed_tz (y := ((dp - 1 : Nat) : Int)) (by omega) ?_
      refine lv_lshl (v := (jI ((hf : Int)))) hx hb d_Fo_nearestTo_93 (by rw [hhf]; exact (shl_l (a := 1) (by omega)).trans (by rw [Nat.one_mul])) ?_
      refine lv_lstore hx hb d_Fo_nearestTo_94 hl (by decide) rfl (fun ls hl => ?_)
      have hl : lv_has ls 15 [(12, .long (jI ((hf : Int)))), (10, .long (jI (((h - kp : Nat) : Int)))), (8, .long (jI ((q : Int)))), (7, .int (iI ((E : Int)))), (6, .int (iI ((dp : Int)))), (5, .int (iI (((((bl h : Nat) : Int)) - (1)) - (((fbz kf : Nat) : Int))))), (0, .ref (ad kf)), (1, .long (jI ((h : Int)))), (3, .int (iI (zm))), (4, .int (iI (ez)))] := hl
      refine lv_lload hx hb d_Fo_nearestTo_96 (lv_at hl 1 rfl) ?_
      refine lv_lload hx hb d_Fo_nearestTo_98 (lv_at hl 0 rfl) ?_
      refine ed_lif_gt (tgt := 125) hx hb d_Fo_nearestTo_100 d_Fo_nearestTo_101 rfl (by omega) (by omega) (fun h_4 => ?_) (fun h_4 => ?_)
      · skip
        refine ed_pc (pc' := 125) rfl ?_
        refine lv_iconst (v := iI 1) hx hb d_Fo_nearestTo_125 rfl ?_
        refine ed_pc (pc' := 126) rfl ?_
        refine lv_goto (tgt := 130) hx hb d_Fo_nearestTo_126 rfl ?_
        have hl := lv_sub hl [6, 3, 2] rfl
        exact L130 (q) (1) _ ls H locs (hq) (rfl) (by omega) (Or.inl ⟨rfl, by rw [← hhf, ← hkp]; rcases hzm with ⟨z1, z2⟩ | ⟨z1, z2⟩ <;> first | exact Or.inl (by omega) | exact Or.inr ⟨by omega, Or.inl z2⟩ | exact Or.inr ⟨by omega, Or.inr (by omega)⟩ | (exfalso; omega)⟩) hl hP hD hS
      · skip
        refine ed_pc (pc' := 104) rfl ?_
        refine lv_lload hx hb d_Fo_nearestTo_104 (lv_at hl 1 rfl) ?_
        refine ed_pc (pc' := 106) rfl ?_
        refine lv_lload hx hb d_Fo_nearestTo_106 (lv_at hl 0 rfl) ?_
        refine ed_lif_ne (tgt := 129) hx hb d_Fo_nearestTo_108 d_Fo_nearestTo_109 rfl (by omega) (by omega) (fun h_5 => ?_) (fun h_5 => ?_)
        · skip
          refine ed_pc (pc' := 129) rfl ?_
          refine lv_iconst (v := iI 0) hx hb d_Fo_nearestTo_129 rfl ?_
          have hl := lv_sub hl [6, 3, 2] rfl
          exact L130 (q) (0) _ ls H locs (hq) (rfl) (by omega) (Or.inr ⟨rfl, by rw [← hhf, ← hkp]; rintro (y | ⟨y, (y2 | y3)⟩) <;> first | omega | (rcases hzm with ⟨z1, z2⟩ | ⟨z1, z2⟩ <;> first | omega | exact z2 y2)⟩) hl hP hD hS
        · skip
          refine ed_pc (pc' := 112) rfl ?_
          refine lv_iload_n hx hb d_Fo_nearestTo_112 rfl (lv_at hl 8 rfl) ?_
          refine ed_if_ne (tgt := 125) hx hb d_Fo_nearestTo_113 rfl (by omega) (fun h_6 => ?_) (fun h_6 => ?_)
          · skip
            refine ed_pc (pc' := 125) rfl ?_
            refine lv_iconst (v := iI 1) hx hb d_Fo_nearestTo_125 rfl ?_
            refine lv_goto (tgt := 130) hx hb d_Fo_nearestTo_126 rfl ?_
            have hl := lv_sub hl [6, 3, 2] rfl
            exact L130 (q) (1) _ ls H locs (hq) (rfl) (by omega) (Or.inl ⟨rfl, by rw [← hhf, ← hkp]; rcases hzm with ⟨z1, z2⟩ | ⟨z1, z2⟩ <;> first | exact Or.inl (by omega) | exact Or.inr ⟨by omega, Or.inl z2⟩ | exact Or.inr ⟨by omega, Or.inr (by omega)⟩ | (exfalso; omega)⟩) hl hP hD hS
          · skip
            refine ed_pc (pc' := 116) rfl ?_
            refine lv_lload hx hb d_Fo_nearestTo_116 (lv_at hl 2 rfl) ?_
            refine lv_lconst (v := jI 1) hx hb d_Fo_nearestTo_118 (by decide +kernel) ?_
            refine lv_land hx hb d_Fo_nearestTo_119 ?_
            refine ed_tl (y := (jI (((q % 2 : Nat) : Int)))) (and_1 (by omega)) ?_
            refine lv_lconst (v := jI 0) hx hb d_Fo_nearestTo_120 (by decide +kernel) ?_
            refine ed_pc (pc' := 121) rfl ?_
            refine ed_lif_eq (tgt := 129) hx hb d_Fo_nearestTo_121 d_Fo_nearestTo_122 rfl (by omega) (by omega) (fun h_7 => ?_) (fun h_7 => ?_)
            · skip
              refine ed_pc (pc' := 129) rfl ?_
              refine lv_iconst (v := iI 0) hx hb d_Fo_nearestTo_129 rfl ?_
              have hl := lv_sub hl [6, 3, 2] rfl
              exact L130 (q) (0) _ ls H locs (hq) (rfl) (by omega) (Or.inr ⟨rfl, by rw [← hhf, ← hkp]; rintro (y | ⟨y, (y2 | y3)⟩) <;> first | omega | (rcases hzm with ⟨z1, z2⟩ | ⟨z1, z2⟩ <;> first | omega | exact z2 y2)⟩) hl hP hD hS
            · skip
              refine ed_pc (pc' := 125) rfl ?_
              refine lv_iconst (v := iI 1) hx hb d_Fo_nearestTo_125 rfl ?_
              refine lv_goto (tgt := 130) hx hb d_Fo_nearestTo_126 rfl ?_
              have hl := lv_sub hl [6, 3, 2] rfl
              exact L130 (q) (1) _ ls H locs (hq) (rfl) (by omega) (Or.inl ⟨rfl, by rw [← hhf, ← hkp]; rcases hzm with ⟨z1, z2⟩ | ⟨z1, z2⟩ <;> first | exact Or.inl (by omega) | exact Or.inr ⟨by omega, Or.inl z2⟩ | exact Or.inr ⟨by omega, Or.inr (by omega)⟩ | (exfalso; omega)⟩) hl hP hD hS
    · skip
      refine ed_pc (pc' := 68) rfl ?_
      refine lv_aload_n hx hb d_Fo_nearestTo_68 rfl (lv_at hl 3 rfl) ?_
      refine va_getX hx hb hE9 hkf hS hown (hts _ (List.mem_cons_of_mem _ tw_601)) (fun _ h9 => h9) d_Fo_nearestTo_69 ?_
      exact W.lret (v := (jI (((ifz kf : Nat) : Int)))) hx hb hr (fun t9 ht9 hW9 => ⟨⟨(jI (((ifz kf : Nat) : Int))), [], rfl, ⟨⟨ifz kf, rfl, nt_inf hkf hM ht hn hrm hX hd1 hb1 hb2 hp0 (by omega)⟩, rfl⟩, by rw [ht9]; exact hP, hD⟩, hS.F ht9⟩) hS.2.2 d_Fo_nearestTo_72
  · skip
    refine ed_pc (pc' := 46) rfl ?_
    refine lv_lconst (v := jI 0) hx hb d_Fo_nearestTo_46 (by decide +kernel) ?_
    have hE00 : E = 0 := by omega
    rw [hE00] at hX
    exact W.lret (v := (jI (0))) hx hb hr (fun t9 ht9 hW9 => ⟨⟨(jI (0)), [], rfl, ⟨⟨0, rfl, NR_small (nto_small hM ht hn hrm hh2 (by omega) hX)⟩, rfl⟩, by rw [ht9]; exact hP, hD⟩, hS.F ht9⟩) hS.2.2 d_Fo_nearestTo_47
end
section
/-! the number of an ExactDigits: D its digits without zeros behind, dl D of them -/
def nm_ok (g : Nat → Int32) (X : Nat) : Prop := dl X ≤ 1200 ∧ rz X = X ∧ dg_ok g (dl X) X
theorem nm_0 (g : Nat → Int32) : nm_ok g 0 := ⟨by rw [dl_0]; omega, rz_0, fun i hi => by rw [dl_0] at hi; omega⟩
theorem hdb_fit (V : Nat) (place : Int) : fits .boolean (.int (iI (hdb V place))) = true := by
  unfold hdb
  split <;> decide +kernel
/-- what is given anew out of V: its first 1200 digits, no zeros behind -/
def gvD (V : Nat) : Nat := rz (V / 10 ^ (dl V - 1200))
theorem gv_dl (V : Nat) : dl (V / 10 ^ (dl V - 1200)) = min (dl V) 1200 := by rw [dl_div]; omega
theorem gv_lt (V : Nat) : V / 10 ^ (dl V - 1200) < 10 ^ min (dl V) 1200 := by have := dl_lt (V / 10 ^ (dl V - 1200)); rwa [gv_dl] at this
theorem gv_ge {V : Nat} (h : 0 < min (dl V) 1200) : 10 ^ (min (dl V) 1200 - 1) ≤ V / 10 ^ (dl V - 1200) := by
  have h2 : 0 < V / 10 ^ (dl V - 1200) := by
    rcases Nat.eq_zero_or_pos (V / 10 ^ (dl V - 1200)) with z | z
    · have := gv_dl V; rw [z, dl_0] at this; omega
    · exact z
  have := dl_le h2; rwa [gv_dl] at this
theorem gv_0 {V : Nat} : V / 10 ^ (dl V - 1200) = 0 ↔ V = 0 := by
  constructor
  · intro h
    have := gv_dl V
    rw [h, dl_0] at this
    exact dl_eq0 (by omega)
  · rintro rfl; simp
theorem cp_dg {g : Nat → Int32} {V : Nat} (h : cp_ok g V) : dg_ok g (min (dl V) 1200) (V / 10 ^ (dl V - 1200)) := by
  intro i hi
  rw [h i (by omega) (by omega), Nat.div_div_eq_div_mul, ← Nat.pow_add]
  have : dl V - 1200 + (min (dl V) 1200 - 1 - i) = dl V - 1 - i := by omega
  rw [this]
theorem gv_rz (V : Nat) : rz (gvD V) = gvD V := rz_rz _
theorem gv_le (V : Nat) : dl (gvD V) ≤ 1200 := by
  unfold gvD
  have h1 := dl_mono (rz_le (V / 10 ^ (dl V - 1200)))
  have h2 := gv_dl V
  omega
/-- digits shown, k places from the point -/
def dgs (X : Nat) (pt k : Int) : Int := if 0 ≤ pt + k ∧ pt + k < ((dl X : Nat) : Int) then ((X / 10 ^ (dl X - 1 - (pt + k).toNat) % 10 : Nat) : Int) else 0
/-- the sum over the first i digits -/
def hsv (X : Nat) : Nat → Int64
  | 0 => jI 7
  | i + 1 => hsv X i * jI 31 + jI ((X / 10 ^ (dl X - 1 - i) % 10 : Nat) : Int)
/-- a contract whose answer is a known reference -/
def c_R (l : Launch) (y : MethodName) (wd : List Cond) (rm : Room) (Ex : (Nat → Prop) → State → Prop) (D : va_G) (cl : List vw_C) (tys : List (ClassId × FieldType)) (av : List Value) (ws : va_W) (ra : Nat) (mc ms : Nat) : Prop :=
  ∀ sz : Nat, Met l y wd rm (c_P Ex D cl tys av ws sz) (va_Qr (fun u : va_W => u = ws) (fun u a t => a = ra ∧ c_B D cl (va_A ws sz) u t) (va_A ws sz)) mc ms (va_A ws sz)
section EdCalls2
variable {p : Program} {l : Launch} {e : Env} {R : Room} {s : State} {m : MethodId} {args : Array Value} {below : List Frame} {meth : Method} {c : Code} {H : Heap} {locs : List Loc} {cells slots : Nat} {Q : State → Prop} {pc : Nat} {ls : Array Slot} {rest st0 : List Value} {a : Array Value} {A0 : Nat → Prop} {H0 : Heap} {mc ms : Nat} {D : va_G} {cl : List vw_C} {ws : va_W} {ra : Nat}
theorem c_fr (hr : va_Run p l e R s m args below meth c H locs cells slots mc ms (F0 m pc ls st0) rest (va_Qr (fun u : va_W => u = []) (fun u a t => a = ra ∧ c_B D cl (va_A [] H.size) u t) (va_A [] H.size) a) (va_A [] H.size))
    (hP : va_P D cl ws H) (hD : va_D A0 ws) (hS : va_S A0 H0 H locs) (hA : ∀ q, H0.size ≤ q → A0 q) (isR : List Nat) (hR : isR.map (fun i => ws[i]?) = ws.map some) (hn2 : va_nd isR = true)
    (kk : ∀ (H1 : Heap) (locs1 : List Loc), va_P D cl (ws ++ []) H1 → va_D A0 (ws ++ []) → va_S A0 H0 H1 locs1 → W p l e R s m args below meth c H1 locs1 (cells + mc) (slots + ms) Q (F0 m (pc + 3) ls (.ref ra :: rest))) : W p l e R s m args below meth c H locs cells slots Q (F0 m pc ls st0) := by
  have hC : ([] : List Nat).map (fun i => ws[i]?) = ([] : va_W).map some := rfl
  have hF := va_free (wc := []) hD hS hA [] hC
  refine va_callr hr hS (fun q _ h => hF q h) hF (fun u a t H1 locs1 ht hvm hp hB hz hk hS1 => ?_)
  obtain ⟨rfl, hP1, hD1⟩ := hB
  subst hp
  rw [ht] at hP1
  obtain ⟨hP2, hD2⟩ := va_join hP hD [] isR hC hR hn2 (fun i _ h => by cases h) hk hF hP1 hD1
  exact kk H1 locs1 hP2 hD2 hS1
end EdCalls2
theorem shr16 {a : Int} (ha : iR a) : iI a >>> (iI 16 &&& 31) = iI (a / 65536) := by
  apply Int32.toInt_inj.mp
  rw [pk_shr (iI a) (iI 16 &&& 31) 16 (by decide +kernel), iI_toInt ha, iI_toInt (by omega), Int.shiftRight_eq_div_pow]
  rfl
end
section
set_option maxHeartbeats 4000000 in
set_option maxRecDepth 100000 in
theorem c_Ed_isBeyond (l : Launch) (D : va_G) (cB cI cJ : ClassId) (t5 : Nat) (ad : Nat → Nat) (k mo : Int) (hk : iR k) (hmo : 0 ≤ mo ∧ mo ≤ 100000) : c_I l m_Ed_isBeyond (Cond.code m_Ed_isBeyond b_Ed_isBeyond 2 (some .boolean) :: gw) (rm_ 0 0) (eX t5 ad) D ecl (tyS cB cI cJ) [.int (iI (k)), .int (iI (mo))] [] (fun r u => r = iI (if k < -mo ∨ mo < k then 1 else 0) ∧ u = []) 0 0 := by
  intro sz0
  refine Met.ofW (cc := b_Ed_isBeyond) (maxL := 2) (ret := (some .boolean)) (by decide) rfl ?_
  intro p e s m args below meth c s₁ B hml hv
  obtain ⟨rfl, hsz, hP, hK, hD0, hE⟩ := hv
  have hx := B.exec
  have hb := B.bytes
  have hr := B.returns
  have hts := atoms_spec (ws := Cond.code m_Ed_isBeyond b_Ed_isBeyond 2 (some .boolean) :: gw) B.pre
  have hown : s.vm.findClass R_Ed = some m.cls := findClass_of_methodNamed B.named
  have hlocks := B.notSynchronized
  subst hsz
  have hD := hD0.self (sz := s.heap.size)
  generalize hAe : va_A [] s.heap.size = A at hD hE ⊢
  have hA : ∀ q : Nat, s.heap.size ≤ q → A q := fun q h => by rw [← hAe]; exact Or.inr h
  have hS : va_S A s.heap s.heap [] := va_S.rf
  have hl := lv_entry ([.int (iI (k)), .int (iI (mo))]) (n := 2) (Nat.le_of_ble_eq_true rfl)
  rw [lg_entry_eq]
  generalize (lg_sl ([.int (iI (k)), .int (iI (mo))]) ++ List.replicate (2 - (lg_sl ([.int (iI (k)), .int (iI (mo))])).length) Slot.unset).toArray = ls at hl ⊢
  have hl : lv_has ls 2 [(0, .int (iI (k))), (1, .int (iI (mo)))] := hl
  refine lv_iload_n hx hb d_Ed_isBeyond_0 rfl (lv_at hl 0 rfl) ?_
  refine lv_iload_n hx hb d_Ed_isBeyond_1 rfl (lv_at hl 1 rfl) ?_
  refine ed_ineg hx hb d_Ed_isBeyond_2 ?_
  refine ed_icmp_lt (tgt := 11) hx hb d_Ed_isBeyond_3 rfl (by omega) (by omega) (fun h_1 => ?_) (fun h_1 => ?_)
  · skip
    refine ed_pc (pc' := 11) rfl ?_
    refine lv_iconst (v := iI 1) hx hb d_Ed_isBeyond_11 rfl ?_
    refine lv_goto (tgt := 16) hx hb d_Ed_isBeyond_12 rfl ?_
    exact W.zret (v := (iI (1))) hx hb hr (by decide +kernel) (fun t9 ht9 hW9 => ⟨⟨(iI (1)), [], rfl, ⟨by rw [if_pos (by omega)], rfl⟩, by rw [ht9]; exact hP, hD⟩, hS.F ht9⟩) hS.2.2 d_Ed_isBeyond_16
  · skip
    refine ed_pc (pc' := 6) rfl ?_
    refine lv_iload_n hx hb d_Ed_isBeyond_6 rfl (lv_at hl 0 rfl) ?_
    refine lv_iload_n hx hb d_Ed_isBeyond_7 rfl (lv_at hl 1 rfl) ?_
    refine ed_icmp_le (tgt := 15) hx hb d_Ed_isBeyond_8 rfl (by omega) (by omega) (fun h_2 => ?_) (fun h_2 => ?_)
    · skip
      refine ed_pc (pc' := 15) rfl ?_
      refine ed_pc (pc' := 15) rfl ?_
      refine lv_iconst (v := iI 0) hx hb d_Ed_isBeyond_15 rfl ?_
      exact W.zret (v := (iI (0))) hx hb hr (by decide +kernel) (fun t9 ht9 hW9 => ⟨⟨(iI (0)), [], rfl, ⟨by rw [if_neg (by omega)], rfl⟩, by rw [ht9]; exact hP, hD⟩, hS.F ht9⟩) hS.2.2 d_Ed_isBeyond_16
    · skip
      refine ed_pc (pc' := 11) rfl ?_
      refine ed_pc (pc' := 11) rfl ?_
      refine lv_iconst (v := iI 1) hx hb d_Ed_isBeyond_11 rfl ?_
      refine lv_goto (tgt := 16) hx hb d_Ed_isBeyond_12 rfl ?_
      exact W.zret (v := (iI (1))) hx hb hr (by decide +kernel) (fun t9 ht9 hW9 => ⟨⟨(iI (1)), [], rfl, ⟨by rw [if_pos (by omega)], rfl⟩, by rw [ht9]; exact hP, hD⟩, hS.F ht9⟩) hS.2.2 d_Ed_isBeyond_16
set_option maxHeartbeats 4000000 in
set_option maxRecDepth 100000 in
theorem c_Ed_formatOf (l : Launch) (D : va_G) (cB cI cJ : ClassId) (t5 : Nat) (ad : Nat → Nat) (zz : Int) (kf : Nat) (hzz : iR zz) (hkf9 : kf = if zz = 0 then 0 else 1) : c_R l m_Ed_formatOf (Cond.code m_Ed_formatOf b_Ed_formatOf 1 (some (.object "ExactDigits$Format")) :: gw) (rm_ 0 0) (eX t5 ad) D ecl (tyS cB cI cJ) [.int (iI (zz))] [] ((ad kf)) 0 0 := by
  intro sz0
  refine Met.ofW (cc := b_Ed_formatOf) (maxL := 1) (ret := (some (.object "ExactDigits$Format"))) (by decide) rfl ?_
  intro p e s m args below meth c s₁ B hml hv
  obtain ⟨rfl, hsz, hP, hK, hD0, hE⟩ := hv
  have hx := B.exec
  have hb := B.bytes
  have hr := B.returns
  have hts := atoms_spec (ws := Cond.code m_Ed_formatOf b_Ed_formatOf 1 (some (.object "ExactDigits$Format")) :: gw) B.pre
  have hown : s.vm.findClass R_Ed = some m.cls := findClass_of_methodNamed B.named
  have hlocks := B.notSynchronized
  subst hsz
  have hD := hD0.self (sz := s.heap.size)
  generalize hAe : va_A [] s.heap.size = A at hD hE ⊢
  have hA : ∀ q : Nat, s.heap.size ≤ q → A q := fun q h => by rw [← hAe]; exact Or.inr h
  have hS : va_S A s.heap s.heap [] := va_S.rf
  have hl := lv_entry ([.int (iI (zz))]) (n := 1) (Nat.le_of_ble_eq_true rfl)
  rw [lg_entry_eq]
  generalize (lg_sl ([.int (iI (zz))]) ++ List.replicate (1 - (lg_sl ([.int (iI (zz))])).length) Slot.unset).toArray = ls at hl ⊢
  have hl : lv_has ls 1 [(0, .int (iI (zz)))] := hl
  have hE0 := hE
  obtain ⟨hE1, hE2, hE3, hE4, hE5, hE6, hE7, hE8, hE9, hE10, hE11, hE12⟩ := hE0
  refine lv_iload_n hx hb d_Ed_formatOf_0 rfl (lv_at hl 0 rfl) ?_
  refine ed_if_eq (tgt := 10) hx hb d_Ed_formatOf_1 rfl (by omega) (fun h_1 => ?_) (fun h_1 => ?_)
  · skip
    refine ed_pc (pc' := 10) rfl ?_
    refine va_gets hx hb hE3 hS hown (hts _ (List.mem_cons_of_mem _ tw_108)) (fun _ h => h) d_Ed_formatOf_10 ?_
    exact W.aret (v := .ref (ad 0)) hx hb hr (Or.inl ⟨_, rfl⟩) (Or.inr ⟨_, rfl⟩) (fun t9 ht9 hW9 => ⟨⟨[], ad 0, rfl, rfl, by rw [hkf9, if_pos (by omega)], by rw [ht9]; exact hP, hD⟩, hS.F ht9⟩) hS.2.2 d_Ed_formatOf_13
  · skip
    refine ed_pc (pc' := 4) rfl ?_
    refine va_gets hx hb hE4 hS hown (hts _ (List.mem_cons_of_mem _ tw_106)) (fun _ h => h) d_Ed_formatOf_4 ?_
    refine lv_goto (tgt := 13) hx hb d_Ed_formatOf_7 rfl ?_
    exact W.aret (v := .ref (ad 1)) hx hb hr (Or.inl ⟨_, rfl⟩) (Or.inr ⟨_, rfl⟩) (fun t9 ht9 hW9 => ⟨⟨[], ad 1, rfl, rfl, by rw [hkf9, if_neg (by omega)], by rw [ht9]; exact hP, hD⟩, hS.F ht9⟩) hS.2.2 d_Ed_formatOf_13
set_option maxHeartbeats 4000000 in
set_option maxRecDepth 100000 in
theorem c_Ed_bitsOfTenTo (l : Launch) (D : va_G) (cB cI cJ : ClassId) (t5 : Nat) (ad : Nat → Nat) (k : Int) (hk : -5000 ≤ k ∧ k ≤ 5000) : c_I l m_Ed_bitsOfTenTo (Cond.code m_Ed_bitsOfTenTo b_Ed_bitsOfTenTo 1 (some .int) :: gw) (rm_ 0 0) (eX t5 ad) D ecl (tyS cB cI cJ) [.int (iI (k))] [] (fun r u => r = iI (k * 217706 / 65536) ∧ u = []) 0 0 := by
  intro sz0
  refine Met.ofW (cc := b_Ed_bitsOfTenTo) (maxL := 1) (ret := (some .int)) (by decide) rfl ?_
  intro p e s m args below meth c s₁ B hml hv
  obtain ⟨rfl, hsz, hP, hK, hD0, hE⟩ := hv
  have hx := B.exec
  have hb := B.bytes
  have hr := B.returns
  have hts := atoms_spec (ws := Cond.code m_Ed_bitsOfTenTo b_Ed_bitsOfTenTo 1 (some .int) :: gw) B.pre
  have hown : s.vm.findClass R_Ed = some m.cls := findClass_of_methodNamed B.named
  have hlocks := B.notSynchronized
  subst hsz
  have hD := hD0.self (sz := s.heap.size)
  generalize hAe : va_A [] s.heap.size = A at hD hE ⊢
  have hA : ∀ q : Nat, s.heap.size ≤ q → A q := fun q h => by rw [← hAe]; exact Or.inr h
  have hS : va_S A s.heap s.heap [] := va_S.rf
  have hl := lv_entry ([.int (iI (k))]) (n := 1) (Nat.le_of_ble_eq_true rfl)
  rw [lg_entry_eq]
  generalize (lg_sl ([.int (iI (k))]) ++ List.replicate (1 - (lg_sl ([.int (iI (k))])).length) Slot.unset).toArray = ls at hl ⊢
  have hl : lv_has ls 1 [(0, .int (iI (k)))] := hl
  refine lv_iload_n hx hb d_Ed_bitsOfTenTo_0 rfl (lv_at hl 0 rfl) ?_
  refine lv_ldc (v := 217706) hx hb hown (hts _ (List.mem_cons_of_mem _ tw_117)) d_Ed_bitsOfTenTo_1 ?_
  refine ed_ti (y := (iI (217706))) (by decide +kernel) ?_
  refine ed_imul hx hb d_Ed_bitsOfTenTo_3 ?_
  refine lv_bipush (v := iI 16) hx hb d_Ed_bitsOfTenTo_4 (by decide +kernel) ?_
  refine lv_ishr hx hb d_Ed_bitsOfTenTo_6 ?_
  refine ed_ti (y := (iI (k * 217706 / 65536))) (shr16 (by omega)) ?_
  exact W.iret (v := (iI (k * 217706 / 65536))) hx hb hr (fun t9 ht9 hW9 => ⟨⟨(iI (k * 217706 / 65536)), [], rfl, ⟨rfl, rfl⟩, by rw [ht9]; exact hP, hD⟩, hS.F ht9⟩) hS.2.2 d_Ed_bitsOfTenTo_7
set_option maxHeartbeats 4000000 in
set_option maxRecDepth 100000 in
theorem c_Ed_dropZerosBehind (l : Launch) (D : va_G) (cB cI cJ : ClassId) (t5 : Nat) (ad : Nat → Nat) (x dg q : Nat) (g : Nat → Int32) (pt zl : Int) (X : Nat) (h1200 : dl X ≤ 1200) (hg : dg_ok g (dl X) X) : c_V l m_Ed_dropZerosBehind (Cond.code m_Ed_dropZerosBehind b_Ed_dropZerosBehind 1 none :: gw) (rm_ 0 0) (eX t5 ad) D ecl (tyS cB cI cJ) [.ref x] [(x, .inr (1, [.ref dg, .int (iI (((dl X : Nat) : Int))), .int (iI (pt)), .int (iI (zl)), .ref q])), (dg, .inl (cB, 1200, .inl g))] (fun u => dg_ok g (dl (rz X)) (rz X) ∧ u = [(x, .inr (1, [.ref dg, .int (iI (((dl (rz X) : Nat) : Int))), .int (iI (if X = 0 then 0 else pt)), .int (iI (zl)), .ref q])), (dg, .inl (cB, 1200, .inl g))]) 0 0 := by
  intro sz0
  refine Met.ofW (cc := b_Ed_dropZerosBehind) (maxL := 1) (ret := none) (by decide) rfl ?_
  intro p e s m args below meth c s₁ B hml hv
  obtain ⟨rfl, hsz, hP, hK, hD0, hE⟩ := hv
  have hx := B.exec
  have hb := B.bytes
  have hr := B.returns
  have hts := atoms_spec (ws := Cond.code m_Ed_dropZerosBehind b_Ed_dropZerosBehind 1 none :: gw) B.pre
  have hown : s.vm.findClass R_Ed = some m.cls := findClass_of_methodNamed B.named
  have hlocks := B.notSynchronized
  subst hsz
  have hD := hD0.self (sz := s.heap.size)
  generalize hAe : va_A [(x, .inr (1, [.ref dg, .int (iI (((dl X : Nat) : Int))), .int (iI (pt)), .int (iI (zl)), .ref q])), (dg, .inl (cB, 1200, .inl g))] s.heap.size = A at hD hE ⊢
  have hA : ∀ q : Nat, s.heap.size ≤ q → A q := fun q h => by rw [← hAe]; exact Or.inr h
  have hS : va_S A s.heap s.heap [] := va_S.rf
  have hl := lv_entry ([.ref x]) (n := 1) (Nat.le_of_ble_eq_true rfl)
  rw [lg_entry_eq]
  generalize (lg_sl ([.ref x]) ++ List.replicate (1 - (lg_sl ([.ref x])).length) Slot.unset).toArray = ls at hl ⊢
  have hl : lv_has ls 1 [(0, .ref x)] := hl
  have L0 : ∀ (n9 : Nat) (Y : Nat) (zc : Int) (ls : Array Slot) (H : Heap) (locs : List Loc), dl Y = n9 → (zc = ((dl Y : Nat) : Int)) → (dl Y ≤ 1200) → (dg_ok g (dl Y) Y) → (rz Y = rz X) → ((Y = 0 ↔ X = 0)) → lv_has ls 1 [(0, .ref x)] → va_P D ecl [(x, .inr (1, [.ref dg, .int (iI (zc)), .int (iI (pt)), .int (iI (zl)), .ref q])), (dg, .inl (cB, 1200, .inl g))] H → va_D A [(x, .inr (1, [.ref dg, .int (iI (zc)), .int (iI (pt)), .int (iI (zl)), .ref q])), (dg, .inl (cB, 1200, .inl g))] → va_S A s.heap H locs → W p l e (headSpec (Cond.code m_Ed_dropZerosBehind b_Ed_dropZerosBehind 1 none :: gw) (rm_ 0 0)).room s m ([.ref x] : List Value).toArray below meth c H locs 0 0 (MQ below (va_Qv (fun u => dg_ok g (dl (rz X)) (rz X) ∧ u = [(x, .inr (1, [.ref dg, .int (iI (((dl (rz X) : Nat) : Int))), .int (iI (if X = 0 then 0 else pt)), .int (iI (zl)), .ref q])), (dg, .inl (cB, 1200, .inl g))]) (c_B D ecl A) A) ([.ref x] : List Value).toArray s 0 0 A) (F0 m 0 ls []) := by
    intro n9
    induction n9 using Nat.strongRecOn with
    | ind n9 ih =>
    intro Y zc ls H locs hn9 hzc hY hYg hYr hY0 hl hP hD hS
    refine lv_aload_n hx hb d_Ed_dropZerosBehind_0 rfl (lv_at hl 0 rfl) ?_
    refine va_get (D := D) (ci := 1) (v := .int (iI (zc))) (C := R_Ed) (T := T_Ed) (N := 5) hx hb hts (fun w h => List.mem_cons_of_mem _ (in_Ed w h)) hown hK hP 0 rfl rfl 1 (by decide) (hts _ (List.mem_cons_of_mem _ tw_41)) (fun _ h9 => h9) rfl d_Ed_dropZerosBehind_1 ?_
    refine ed_if_le (tgt := 34) hx hb d_Ed_dropZerosBehind_4 rfl (by omega) (fun h_1 => ?_) (fun h_1 => ?_)
    · skip
      refine ed_pc (pc' := 34) rfl ?_
      have hYe : Y = rz X := by
        rw [← hYr]
        rcases Nat.eq_zero_or_pos Y with z | z
        · rw [z, rz_0]
        · exact (rz_n (by have := dl_pos z; omega)).symm
      have hzc2 : zc = ((dl (rz X) : Nat) : Int) := by rw [hzc, hYe]
      rw [hYe] at hYg hY0
      refine lv_aload_n hx hb d_Ed_dropZerosBehind_34 rfl (lv_at hl 0 rfl) ?_
      refine va_get (D := D) (ci := 1) (v := .int (iI (zc))) (C := R_Ed) (T := T_Ed) (N := 5) hx hb hts (fun w h => List.mem_cons_of_mem _ (in_Ed w h)) hown hK hP 0 rfl rfl 1 (by decide) (hts _ (List.mem_cons_of_mem _ tw_41)) (fun _ h9 => h9) rfl d_Ed_dropZerosBehind_35 ?_
      refine ed_if_ne (tgt := 46) hx hb d_Ed_dropZerosBehind_38 rfl (by omega) (fun h_2 => ?_) (fun h_2 => ?_)
      · skip
        refine ed_pc (pc' := 46) rfl ?_
        have hX0 : ¬ X = 0 := fun z => by rw [z, rz_0, dl_0] at hzc2; omega
        exact W.vret hx hb hr (fun t9 ht9 hW9 => ⟨⟨[(x, .inr (1, [.ref dg, .int (iI (zc)), .int (iI (pt)), .int (iI (zl)), .ref q])), (dg, .inl (cB, 1200, .inl g))], rfl, ⟨hYg, by rw [hzc2, if_neg hX0]⟩, by rw [ht9]; exact hP, hD⟩, hS.F ht9⟩) hS.2.2 d_Ed_dropZerosBehind_46
      · skip
        refine ed_pc (pc' := 41) rfl ?_
        refine lv_aload_n hx hb d_Ed_dropZerosBehind_41 rfl (lv_at hl 0 rfl) ?_
        refine ed_pc (pc' := 42) rfl ?_
        refine lv_iconst (v := iI 0) hx hb d_Ed_dropZerosBehind_42 rfl ?_
        refine va_put (D := D) (ci := 1) (v := .int (iI (0))) (ty := .int) (C := R_Ed) (T := T_Ed) (N := 5) hx hb hts (fun w h => List.mem_cons_of_mem _ (in_Ed w h)) y_Ed t_Ed n_Ed hown hK hP hD hS 0 rfl rfl 2 (by decide) (hts _ (List.mem_cons_of_mem _ tw_42)) (fun _ h9 => h9) rfl (by decide +kernel) rfl rfl (Nat.le_of_ble_eq_true rfl) d_Ed_dropZerosBehind_43 (fun H locs hP hD hS => ?_)
        have hP : va_P D ecl [(x, .inr (1, [.ref dg, .int (iI (zc)), .int (iI (0)), .int (iI (zl)), .ref q])), (dg, .inl (cB, 1200, .inl g))] H := hP
        have hD : va_D A [(x, .inr (1, [.ref dg, .int (iI (zc)), .int (iI (0)), .int (iI (zl)), .ref q])), (dg, .inl (cB, 1200, .inl g))] := hD
        have hX0 : X = 0 := hY0.mp (dl_eq0 (by omega))
        exact W.vret hx hb hr (fun t9 ht9 hW9 => ⟨⟨[(x, .inr (1, [.ref dg, .int (iI (zc)), .int (iI (0)), .int (iI (zl)), .ref q])), (dg, .inl (cB, 1200, .inl g))], rfl, ⟨hYg, by rw [hzc2, if_pos hX0]⟩, by rw [ht9]; exact hP, hD⟩, hS.F ht9⟩) hS.2.2 d_Ed_dropZerosBehind_46
    · skip
      refine ed_pc (pc' := 7) rfl ?_
      have hYp : 0 < Y := by rcases Nat.eq_zero_or_pos Y with z | z; rw [z, dl_0] at hzc; omega; exact z
      have hdY : dl (Y / 10) = dl Y - 1 := by have := dl_s hYp; omega
      have hsub : dl Y - 1 + 1 = dl Y := by have := dl_pos hYp; omega
      obtain ⟨d0, hd00⟩ : ∃ d0 : Nat, d0 = Y % 10 := ⟨_, rfl⟩
      refine lv_aload_n hx hb d_Ed_dropZerosBehind_7 rfl (lv_at hl 0 rfl) ?_
      refine va_get (D := D) (ci := 1) (v := .ref dg) (C := R_Ed) (T := T_Ed) (N := 5) hx hb hts (fun w h => List.mem_cons_of_mem _ (in_Ed w h)) hown hK hP 0 rfl rfl 0 (by decide) (hts _ (List.mem_cons_of_mem _ tw_40)) (fun _ h9 => h9) rfl d_Ed_dropZerosBehind_8 ?_
      refine lv_aload_n hx hb d_Ed_dropZerosBehind_11 rfl (lv_at hl 0 rfl) ?_
      refine va_get (D := D) (ci := 1) (v := .int (iI (zc))) (C := R_Ed) (T := T_Ed) (N := 5) hx hb hts (fun w h => List.mem_cons_of_mem _ (in_Ed w h)) hown hK hP 0 rfl rfl 1 (by decide) (hts _ (List.mem_cons_of_mem _ tw_41)) (fun _ h9 => h9) rfl d_Ed_dropZerosBehind_12 ?_
      refine ed_pc (pc' := 15) rfl ?_
      refine lv_iconst (v := iI 1) hx hb d_Ed_dropZerosBehind_15 rfl ?_
      refine ed_isub hx hb d_Ed_dropZerosBehind_16 ?_
      refine ed_bald (y := (d0 : Int)) hx hb hK hP 1 0 rfl rfl (dl Y - 1) (by omega) (by omega) (by decide) (by rw [hd00, hYg (dl Y - 1) (by omega), show dl Y - 1 - (dl Y - 1) = 0 by omega, Nat.pow_zero, Nat.div_one]) d_Ed_dropZerosBehind_17 ?_
      refine ed_if_ne (tgt := 34) hx hb d_Ed_dropZerosBehind_18 rfl (by omega) (fun h_3 => ?_) (fun h_3 => ?_)
      · skip
        refine ed_pc (pc' := 34) rfl ?_
        have hYe : Y = rz X := by
          rw [← hYr]
          rcases Nat.eq_zero_or_pos Y with z | z
          · rw [z, rz_0]
          · exact (rz_n (by have := dl_pos z; omega)).symm
        have hzc2 : zc = ((dl (rz X) : Nat) : Int) := by rw [hzc, hYe]
        rw [hYe] at hYg hY0
        refine lv_aload_n hx hb d_Ed_dropZerosBehind_34 rfl (lv_at hl 0 rfl) ?_
        refine va_get (D := D) (ci := 1) (v := .int (iI (zc))) (C := R_Ed) (T := T_Ed) (N := 5) hx hb hts (fun w h => List.mem_cons_of_mem _ (in_Ed w h)) hown hK hP 0 rfl rfl 1 (by decide) (hts _ (List.mem_cons_of_mem _ tw_41)) (fun _ h9 => h9) rfl d_Ed_dropZerosBehind_35 ?_
        refine ed_if_ne (tgt := 46) hx hb d_Ed_dropZerosBehind_38 rfl (by omega) (fun h_4 => ?_) (fun h_4 => ?_)
        · skip
          refine ed_pc (pc' := 46) rfl ?_
          have hX0 : ¬ X = 0 := fun z => by rw [z, rz_0, dl_0] at hzc2; omega
          exact W.vret hx hb hr (fun t9 ht9 hW9 => ⟨⟨[(x, .inr (1, [.ref dg, .int (iI (zc)), .int (iI (pt)), .int (iI (zl)), .ref q])), (dg, .inl (cB, 1200, .inl g))], rfl, ⟨hYg, by rw [hzc2, if_neg hX0]⟩, by rw [ht9]; exact hP, hD⟩, hS.F ht9⟩) hS.2.2 d_Ed_dropZerosBehind_46
        · skip
          refine ed_pc (pc' := 41) rfl ?_
          refine lv_aload_n hx hb d_Ed_dropZerosBehind_41 rfl (lv_at hl 0 rfl) ?_
          refine ed_pc (pc' := 42) rfl ?_
          refine lv_iconst (v := iI 0) hx hb d_Ed_dropZerosBehind_42 rfl ?_
          refine va_put (D := D) (ci := 1) (v := .int (iI (0))) (ty := .int) (C := R_Ed) (T := T_Ed) (N := 5) hx hb hts (fun w h => List.mem_cons_of_mem _ (in_Ed w h)) y_Ed t_Ed n_Ed hown hK hP hD hS 0 rfl rfl 2 (by decide) (hts _ (List.mem_cons_of_mem _ tw_42)) (fun _ h9 => h9) rfl (by decide +kernel) rfl rfl (Nat.le_of_ble_eq_true rfl) d_Ed_dropZerosBehind_43 (fun H locs hP hD hS => ?_)
          have hP : va_P D ecl [(x, .inr (1, [.ref dg, .int (iI (zc)), .int (iI (0)), .int (iI (zl)), .ref q])), (dg, .inl (cB, 1200, .inl g))] H := hP
          have hD : va_D A [(x, .inr (1, [.ref dg, .int (iI (zc)), .int (iI (0)), .int (iI (zl)), .ref q])), (dg, .inl (cB, 1200, .inl g))] := hD
          have hX0 : X = 0 := hY0.mp (dl_eq0 (by omega))
          exact W.vret hx hb hr (fun t9 ht9 hW9 => ⟨⟨[(x, .inr (1, [.ref dg, .int (iI (zc)), .int (iI (0)), .int (iI (zl)), .ref q])), (dg, .inl (cB, 1200, .inl g))], rfl, ⟨hYg, by rw [hzc2, if_pos hX0]⟩, by rw [ht9]; exact hP, hD⟩, hS.F ht9⟩) hS.2.2 d_Ed_dropZerosBehind_46
      · skip
        refine ed_pc (pc' := 21) rfl ?_
        have hd0 : Y % 10 = 0 := by omega
        refine lv_aload_n hx hb d_Ed_dropZerosBehind_21 rfl (lv_at hl 0 rfl) ?_
        refine lv_dup hx hb d_Ed_dropZerosBehind_22 rfl ?_
        refine va_get (D := D) (ci := 1) (v := .int (iI (zc))) (C := R_Ed) (T := T_Ed) (N := 5) hx hb hts (fun w h => List.mem_cons_of_mem _ (in_Ed w h)) hown hK hP 0 rfl rfl 1 (by decide) (hts _ (List.mem_cons_of_mem _ tw_41)) (fun _ h9 => h9) rfl d_Ed_dropZerosBehind_23 ?_
        refine lv_iconst (v := iI 1) hx hb d_Ed_dropZerosBehind_26 rfl ?_
        refine ed_pc (pc' := 27) rfl ?_
        refine ed_isub hx hb d_Ed_dropZerosBehind_27 ?_
        refine va_put (D := D) (ci := 1) (v := .int (iI ((zc) - (1)))) (ty := .int) (C := R_Ed) (T := T_Ed) (N := 5) hx hb hts (fun w h => List.mem_cons_of_mem _ (in_Ed w h)) y_Ed t_Ed n_Ed hown hK hP hD hS 0 rfl rfl 1 (by decide) (hts _ (List.mem_cons_of_mem _ tw_41)) (fun _ h9 => h9) rfl (by decide +kernel) rfl rfl (Nat.le_of_ble_eq_true rfl) d_Ed_dropZerosBehind_28 (fun H locs hP hD hS => ?_)
        have hP : va_P D ecl [(x, .inr (1, [.ref dg, .int (iI ((zc) - (1))), .int (iI (pt)), .int (iI (zl)), .ref q])), (dg, .inl (cB, 1200, .inl g))] H := hP
        have hD : va_D A [(x, .inr (1, [.ref dg, .int (iI ((zc) - (1))), .int (iI (pt)), .int (iI (zl)), .ref q])), (dg, .inl (cB, 1200, .inl g))] := hD
        refine lv_goto (tgt := 0) hx hb d_Ed_dropZerosBehind_31 rfl ?_
        have hl := lv_sub hl [0] rfl
        exact ih _ (by omega) (Y / 10) _ ls H locs rfl (by omega) (by omega) (by rw [hdY]; exact dg_drop (by rw [hsub]; exact hYg)) (by rw [← hYr, ← rz_y hYp hd0]) (by omega) hl hP hD hS
  have hl := lv_sub hl [0] rfl
  exact L0 _ (X) _ ls s.heap [] rfl (rfl) (h1200) (hg) (rfl) (Iff.rfl) hl hP hD hS
end
section
set_option maxHeartbeats 4000000 in
set_option maxRecDepth 100000 in
theorem c_Ed_giveScratch (l : Launch) (D : va_G) (cB cI cJ : ClassId) (t5 : Nat) (ad : Nat → Nat) (x dg q pa : Nat) (g f : Nat → Int32) (sz V : Nat) (zc pt zl ex : Int) (hex : -10000000 ≤ ex ∧ ex ≤ 10000000) (hV : nt_ok f sz V) : c_V l m_Ed_giveScratch (Cond.code m_Ed_giveScratch b_Ed_giveScratch 3 none :: gw) (rm_ 3 71) (eX t5 ad) D ecl (tyS cB cI cJ) [.ref x, .int (iI (ex))] [(x, .inr (1, [.ref dg, .int (iI (zc)), .int (iI (pt)), .int (iI (zl)), .ref q])), (dg, .inl (cB, 1200, .inl g)), (q, .inr (0, [.ref pa, .int (iI ((sz : Int)))])), (pa, .inl (cI, 306, .inl f))] (fun u => ∃ g' : Nat → Int32, nm_ok g' (gvD V) ∧ u = [(x, .inr (1, [.ref dg, .int (iI (((dl (gvD V) : Nat) : Int))), .int (iI (if V = 0 then 0 else ((dl V : Nat) : Int) + ex)), .int (iI (hdb V (((dl V : Nat) : Int) - 1200))), .ref q])), (dg, .inl (cB, 1200, .inl g')), (q, .inr (0, [.ref pa, .int (iI ((sz : Int)))])), (pa, .inl (cI, 306, .inl f))]) 0 0 := by
  intro sz0
  refine Met.ofW (cc := b_Ed_giveScratch) (maxL := 3) (ret := none) (by decide) rfl ?_
  intro p e s m args below meth c s₁ B hml hv
  obtain ⟨rfl, hsz, hP, hK, hD0, hE⟩ := hv
  have hx := B.exec
  have hb := B.bytes
  have hr := B.returns
  have hts := atoms_spec (ws := Cond.code m_Ed_giveScratch b_Ed_giveScratch 3 none :: gw) B.pre
  have hown : s.vm.findClass R_Ed = some m.cls := findClass_of_methodNamed B.named
  have hlocks := B.notSynchronized
  subst hsz
  have hD := hD0.self (sz := s.heap.size)
  generalize hAe : va_A [(x, .inr (1, [.ref dg, .int (iI (zc)), .int (iI (pt)), .int (iI (zl)), .ref q])), (dg, .inl (cB, 1200, .inl g)), (q, .inr (0, [.ref pa, .int (iI ((sz : Int)))])), (pa, .inl (cI, 306, .inl f))] s.heap.size = A at hD hE ⊢
  have hA : ∀ q : Nat, s.heap.size ≤ q → A q := fun q h => by rw [← hAe]; exact Or.inr h
  have hS : va_S A s.heap s.heap [] := va_S.rf
  have hl := lv_entry ([.ref x, .int (iI (ex))]) (n := 3) (Nat.le_of_ble_eq_true rfl)
  rw [lg_entry_eq]
  generalize (lg_sl ([.ref x, .int (iI (ex))]) ++ List.replicate (3 - (lg_sl ([.ref x, .int (iI (ex))])).length) Slot.unset).toArray = ls at hl ⊢
  have hl : lv_has ls 3 [(0, .ref x), (1, .int (iI (ex)))] := hl
  have hdl : dl V ≤ 2754 := by
    have hV2 := hV.2.1
    rw [pB_10] at hV2
    exact dl_bound (Nat.lt_of_lt_of_le hV2 (p10_le (by have := hV.1; omega)))
  refine lv_aload_n hx hb d_Ed_giveScratch_0 rfl (lv_at hl 0 rfl) ?_
  refine va_get (D := D) (ci := 1) (v := .ref q) (C := R_Ed) (T := T_Ed) (N := 5) hx hb hts (fun w h => List.mem_cons_of_mem _ (in_Ed w h)) hown hK hP 0 rfl rfl 4 (by decide) (hts _ (List.mem_cons_of_mem _ tw_44)) (fun _ h9 => h9) rfl d_Ed_giveScratch_1 ?_
  refine c_fi (wc := [(q, .inr (0, [.ref pa, .int (iI ((sz : Int)))])), (pa, .inl (cI, 306, .inl f))]) (wr := [(x, .inr (1, [.ref dg, .int (iI (zc)), .int (iI (pt)), .int (iI (zl)), .ref q])), (dg, .inl (cB, 1200, .inl g))]) (va_runV (C := "ExactDigits$Natural") (As := []) (rest := []) ⟨hx, hb, hml, hown, hts⟩ (c_Na_length l D cB cI cJ t5 ad q pa f sz V hV s.heap.size) (cwV 0 hts (gV tw_70 tw_71 tw_72 tw_2 tw_73) rfl rfl rfl (by decide +kernel) ⟨Nat.le_of_ble_eq_true rfl, Nat.le_of_ble_eq_true rfl⟩) ⟨c_blind (eX_X t5 ad), va_recv (ci := 0) (q0 := 2) hK hP rfl rfl, fun U hU hW => c_pre (wc := [(q, .inr (0, [.ref pa, .int (iI ((sz : Int)))])), (pa, .inl (cI, 306, .inl f))]) (eX_X t5 ad) hE hK hP hD hS hA [2, 3] rfl (by decide) U hU hW⟩ rfl rfl hl.1 rfl (lv_room (Nat.le_of_ble_eq_true rfl)) d_Ed_giveScratch_4 ⟨Nat.le_of_ble_eq_true rfl, Nat.le_of_ble_eq_true rfl⟩) hP hD hS hA [2, 3] [0, 1] rfl rfl (by decide) (by decide) (fun r u H locs hp hP hD hS => ?_)
  obtain ⟨rfl, rfl⟩ := hp
  have hP : va_P D ecl [(x, .inr (1, [.ref dg, .int (iI (zc)), .int (iI (pt)), .int (iI (zl)), .ref q])), (dg, .inl (cB, 1200, .inl g)), (q, .inr (0, [.ref pa, .int (iI ((sz : Int)))])), (pa, .inl (cI, 306, .inl f))] H := hP
  have hD : va_D A [(x, .inr (1, [.ref dg, .int (iI (zc)), .int (iI (pt)), .int (iI (zl)), .ref q])), (dg, .inl (cB, 1200, .inl g)), (q, .inr (0, [.ref pa, .int (iI ((sz : Int)))])), (pa, .inl (cI, 306, .inl f))] := hD
  refine lv_istore_n hx hb d_Ed_giveScratch_7 rfl hl (by decide) rfl (fun ls hl => ?_)
  have hl : lv_has ls 3 [(2, .int (iI (((dl V : Nat) : Int)))), (0, .ref x), (1, .int (iI (ex)))] := hl
  refine lv_aload_n hx hb d_Ed_giveScratch_8 rfl (lv_at hl 1 rfl) ?_
  refine lv_aload_n hx hb d_Ed_giveScratch_9 rfl (lv_at hl 1 rfl) ?_
  refine va_get (D := D) (ci := 1) (v := .ref q) (C := R_Ed) (T := T_Ed) (N := 5) hx hb hts (fun w h => List.mem_cons_of_mem _ (in_Ed w h)) hown hK hP 0 rfl rfl 4 (by decide) (hts _ (List.mem_cons_of_mem _ tw_44)) (fun _ h9 => h9) rfl d_Ed_giveScratch_10 ?_
  refine ed_pc (pc' := 13) rfl ?_
  refine lv_aload_n hx hb d_Ed_giveScratch_13 rfl (lv_at hl 1 rfl) ?_
  refine va_get (D := D) (ci := 1) (v := .ref dg) (C := R_Ed) (T := T_Ed) (N := 5) hx hb hts (fun w h => List.mem_cons_of_mem _ (in_Ed w h)) hown hK hP 0 rfl rfl 0 (by decide) (hts _ (List.mem_cons_of_mem _ tw_40)) (fun _ h9 => h9) rfl d_Ed_giveScratch_14 ?_
  refine c_fi (wc := [(q, .inr (0, [.ref pa, .int (iI ((sz : Int)))])), (pa, .inl (cI, 306, .inl f)), (dg, .inl (cB, 1200, .inl g))]) (wr := [(x, .inr (1, [.ref dg, .int (iI (zc)), .int (iI (pt)), .int (iI (zl)), .ref q]))]) (va_runV (C := "ExactDigits$Natural") (As := [.ref dg]) (rest := [.ref x]) ⟨hx, hb, hml, hown, hts⟩ (c_Na_copyDigits l D cB cI cJ t5 ad q pa dg f g sz V hV H.size) (cwV 1 hts (gV tw_74 tw_75 tw_76 tw_2 tw_77) rfl rfl rfl (by decide +kernel) ⟨Nat.le_of_ble_eq_true rfl, Nat.le_of_ble_eq_true rfl⟩) ⟨c_blind (eX_X t5 ad), va_recv (ci := 0) (q0 := 2) hK hP rfl rfl, fun U hU hW => c_pre (wc := [(q, .inr (0, [.ref pa, .int (iI ((sz : Int)))])), (pa, .inl (cI, 306, .inl f)), (dg, .inl (cB, 1200, .inl g))]) (eX_X t5 ad) hE hK hP hD hS hA [2, 3, 1] rfl (by decide) U hU hW⟩ rfl rfl hl.1 rfl (lv_room (Nat.le_of_ble_eq_true rfl)) d_Ed_giveScratch_17 ⟨Nat.le_of_ble_eq_true rfl, Nat.le_of_ble_eq_true rfl⟩) hP hD hS hA [2, 3, 1] [0] rfl rfl (by decide) (by decide) (fun r u H locs hp hP hD hS => ?_)
  obtain ⟨rfl, g', rfl, hcp⟩ := hp
  have hP : va_P D ecl [(x, .inr (1, [.ref dg, .int (iI (zc)), .int (iI (pt)), .int (iI (zl)), .ref q])), (q, .inr (0, [.ref pa, .int (iI ((sz : Int)))])), (pa, .inl (cI, 306, .inl f)), (dg, .inl (cB, 1200, .inl g'))] H := hP
  have hD : va_D A [(x, .inr (1, [.ref dg, .int (iI (zc)), .int (iI (pt)), .int (iI (zl)), .ref q])), (q, .inr (0, [.ref pa, .int (iI ((sz : Int)))])), (pa, .inl (cI, 306, .inl f)), (dg, .inl (cB, 1200, .inl g'))] := hD
  refine va_put (D := D) (ci := 1) (v := .int (iI (hdb V (((dl V : Nat) : Int) - 1200)))) (ty := .boolean) (C := R_Ed) (T := T_Ed) (N := 5) hx hb hts (fun w h => List.mem_cons_of_mem _ (in_Ed w h)) y_Ed t_Ed n_Ed hown hK hP hD hS 0 rfl rfl 3 (by decide) (hts _ (List.mem_cons_of_mem _ tw_43)) (fun _ h9 => h9) rfl (by decide +kernel) (hdb_nar _ _) (hdb_fit _ _) (Nat.le_of_ble_eq_true rfl) d_Ed_giveScratch_20 (fun H locs hP hD hS => ?_)
  have hP : va_P D ecl [(x, .inr (1, [.ref dg, .int (iI (zc)), .int (iI (pt)), .int (iI (hdb V (((dl V : Nat) : Int) - 1200))), .ref q])), (q, .inr (0, [.ref pa, .int (iI ((sz : Int)))])), (pa, .inl (cI, 306, .inl f)), (dg, .inl (cB, 1200, .inl g'))] H := hP
  have hD : va_D A [(x, .inr (1, [.ref dg, .int (iI (zc)), .int (iI (pt)), .int (iI (hdb V (((dl V : Nat) : Int) - 1200))), .ref q])), (q, .inr (0, [.ref pa, .int (iI ((sz : Int)))])), (pa, .inl (cI, 306, .inl f)), (dg, .inl (cB, 1200, .inl g'))] := hD
  refine lv_aload_n hx hb d_Ed_giveScratch_23 rfl (lv_at hl 1 rfl) ?_
  refine lv_iload_n hx hb d_Ed_giveScratch_24 rfl (lv_at hl 0 rfl) ?_
  refine lv_sipush (v := iI 1200) hx hb d_Ed_giveScratch_25 (by decide +kernel) ?_
  refine ed_min hx hb (hml.trans hl.1.symm) hown (hts _ (List.mem_cons_of_mem _ tw_86)) (hts _ (List.mem_cons_of_mem _ tw_84)) (hts _ (List.mem_cons_of_mem _ tw_6)) (hts _ (List.mem_cons_of_mem _ tw_85)) (Nat.le_of_ble_eq_true rfl) (Nat.le_of_ble_eq_true rfl) (Nat.le_of_ble_eq_true rfl) (Nat.le_of_ble_eq_true rfl) (by omega) (by omega) d_Ed_giveScratch_28 ?_
  refine ed_tz (y := ((dl (V / 10 ^ (dl V - 1200)) : Nat) : Int)) (by rw [gv_dl]; omega) ?_
  refine ed_pc (pc' := 31) rfl ?_
  refine va_put (D := D) (ci := 1) (v := .int (iI (((dl (V / 10 ^ (dl V - 1200)) : Nat) : Int)))) (ty := .int) (C := R_Ed) (T := T_Ed) (N := 5) hx hb hts (fun w h => List.mem_cons_of_mem _ (in_Ed w h)) y_Ed t_Ed n_Ed hown hK hP hD hS 0 rfl rfl 1 (by decide) (hts _ (List.mem_cons_of_mem _ tw_41)) (fun _ h9 => h9) rfl (by decide +kernel) rfl rfl (Nat.le_of_ble_eq_true rfl) d_Ed_giveScratch_31 (fun H locs hP hD hS => ?_)
  have hP : va_P D ecl [(x, .inr (1, [.ref dg, .int (iI (((dl (V / 10 ^ (dl V - 1200)) : Nat) : Int))), .int (iI (pt)), .int (iI (hdb V (((dl V : Nat) : Int) - 1200))), .ref q])), (q, .inr (0, [.ref pa, .int (iI ((sz : Int)))])), (pa, .inl (cI, 306, .inl f)), (dg, .inl (cB, 1200, .inl g'))] H := hP
  have hD : va_D A [(x, .inr (1, [.ref dg, .int (iI (((dl (V / 10 ^ (dl V - 1200)) : Nat) : Int))), .int (iI (pt)), .int (iI (hdb V (((dl V : Nat) : Int) - 1200))), .ref q])), (q, .inr (0, [.ref pa, .int (iI ((sz : Int)))])), (pa, .inl (cI, 306, .inl f)), (dg, .inl (cB, 1200, .inl g'))] := hD
  refine lv_aload_n hx hb d_Ed_giveScratch_34 rfl (lv_at hl 1 rfl) ?_
  refine lv_iload_n hx hb d_Ed_giveScratch_35 rfl (lv_at hl 0 rfl) ?_
  refine lv_iload_n hx hb d_Ed_giveScratch_36 rfl (lv_at hl 2 rfl) ?_
  refine ed_iadd hx hb d_Ed_giveScratch_37 ?_
  refine va_put (D := D) (ci := 1) (v := .int (iI ((((dl V : Nat) : Int)) + (ex)))) (ty := .int) (C := R_Ed) (T := T_Ed) (N := 5) hx hb hts (fun w h => List.mem_cons_of_mem _ (in_Ed w h)) y_Ed t_Ed n_Ed hown hK hP hD hS 0 rfl rfl 2 (by decide) (hts _ (List.mem_cons_of_mem _ tw_42)) (fun _ h9 => h9) rfl (by decide +kernel) rfl rfl (Nat.le_of_ble_eq_true rfl) d_Ed_giveScratch_38 (fun H locs hP hD hS => ?_)
  have hP : va_P D ecl [(x, .inr (1, [.ref dg, .int (iI (((dl (V / 10 ^ (dl V - 1200)) : Nat) : Int))), .int (iI ((((dl V : Nat) : Int)) + (ex))), .int (iI (hdb V (((dl V : Nat) : Int) - 1200))), .ref q])), (q, .inr (0, [.ref pa, .int (iI ((sz : Int)))])), (pa, .inl (cI, 306, .inl f)), (dg, .inl (cB, 1200, .inl g'))] H := hP
  have hD : va_D A [(x, .inr (1, [.ref dg, .int (iI (((dl (V / 10 ^ (dl V - 1200)) : Nat) : Int))), .int (iI ((((dl V : Nat) : Int)) + (ex))), .int (iI (hdb V (((dl V : Nat) : Int) - 1200))), .ref q])), (q, .inr (0, [.ref pa, .int (iI ((sz : Int)))])), (pa, .inl (cI, 306, .inl f)), (dg, .inl (cB, 1200, .inl g'))] := hD
  refine lv_aload_n hx hb d_Ed_giveScratch_41 rfl (lv_at hl 1 rfl) ?_
  refine c_fv (wc := [(x, .inr (1, [.ref dg, .int (iI (((dl (V / 10 ^ (dl V - 1200)) : Nat) : Int))), .int (iI ((((dl V : Nat) : Int)) + (ex))), .int (iI (hdb V (((dl V : Nat) : Int) - 1200))), .ref q])), (dg, .inl (cB, 1200, .inl g'))]) (wr := [(q, .inr (0, [.ref pa, .int (iI ((sz : Int)))])), (pa, .inl (cI, 306, .inl f))]) (va_runV (C := "ExactDigits") (As := []) (rest := []) ⟨hx, hb, hml, hown, hts⟩ (c_Ed_dropZerosBehind l D cB cI cJ t5 ad x dg q g' (((dl V : Nat) : Int) + (ex)) (hdb V (((dl V : Nat) : Int) - 1200)) (V / 10 ^ (dl V - 1200)) (by rw [gv_dl]; omega) (by rw [gv_dl]; exact cp_dg hcp) H.size) (cwV 0 hts (gV tw_87 tw_89 ts_1 tw_1 tw_90) rfl rfl rfl (by decide +kernel) ⟨Nat.le_of_ble_eq_true rfl, Nat.le_of_ble_eq_true rfl⟩) ⟨c_blind (eX_X t5 ad), va_recv (ci := 1) (q0 := 0) hK hP rfl rfl, fun U hU hW => c_pre (wc := [(x, .inr (1, [.ref dg, .int (iI (((dl (V / 10 ^ (dl V - 1200)) : Nat) : Int))), .int (iI ((((dl V : Nat) : Int)) + (ex))), .int (iI (hdb V (((dl V : Nat) : Int) - 1200))), .ref q])), (dg, .inl (cB, 1200, .inl g'))]) (eX_X t5 ad) hE hK hP hD hS hA [0, 3] rfl (by decide) U hU hW⟩ rfl rfl hl.1 rfl (lv_room (Nat.le_of_ble_eq_true rfl)) d_Ed_giveScratch_42 ⟨Nat.le_of_ble_eq_true rfl, Nat.le_of_ble_eq_true rfl⟩) hP hD hS hA [0, 3] [1, 2] rfl rfl (by decide) (by decide) (fun u H locs hp hP hD hS => ?_)
  obtain ⟨hdz, rfl⟩ := hp
  have hP : va_P D ecl [(q, .inr (0, [.ref pa, .int (iI ((sz : Int)))])), (pa, .inl (cI, 306, .inl f)), (x, .inr (1, [.ref dg, .int (iI (((dl (rz (V / 10 ^ (dl V - 1200))) : Nat) : Int))), .int (iI (if V / 10 ^ (dl V - 1200) = 0 then 0 else ((dl V : Nat) : Int) + (ex))), .int (iI (hdb V (((dl V : Nat) : Int) - 1200))), .ref q])), (dg, .inl (cB, 1200, .inl g'))] H := hP
  have hD : va_D A [(q, .inr (0, [.ref pa, .int (iI ((sz : Int)))])), (pa, .inl (cI, 306, .inl f)), (x, .inr (1, [.ref dg, .int (iI (((dl (rz (V / 10 ^ (dl V - 1200))) : Nat) : Int))), .int (iI (if V / 10 ^ (dl V - 1200) = 0 then 0 else ((dl V : Nat) : Int) + (ex))), .int (iI (hdb V (((dl V : Nat) : Int) - 1200))), .ref q])), (dg, .inl (cB, 1200, .inl g'))] := hD
  have hP := hP.sub (ws' := [(x, .inr (1, [.ref dg, .int (iI (((dl (rz (V / 10 ^ (dl V - 1200))) : Nat) : Int))), .int (iI (if V / 10 ^ (dl V - 1200) = 0 then 0 else ((dl V : Nat) : Int) + (ex))), .int (iI (hdb V (((dl V : Nat) : Int) - 1200))), .ref q])), (dg, .inl (cB, 1200, .inl g')), (q, .inr (0, [.ref pa, .int (iI ((sz : Int)))])), (pa, .inl (cI, 306, .inl f))]) [2, 3, 0, 1] rfl
  have hD := hD.sub (ws' := [(x, .inr (1, [.ref dg, .int (iI (((dl (rz (V / 10 ^ (dl V - 1200))) : Nat) : Int))), .int (iI (if V / 10 ^ (dl V - 1200) = 0 then 0 else ((dl V : Nat) : Int) + (ex))), .int (iI (hdb V (((dl V : Nat) : Int) - 1200))), .ref q])), (dg, .inl (cB, 1200, .inl g')), (q, .inr (0, [.ref pa, .int (iI ((sz : Int)))])), (pa, .inl (cI, 306, .inl f))]) [2, 3, 0, 1] (by decide) rfl
  exact W.vret hx hb hr (fun t9 ht9 hW9 => ⟨⟨[(x, .inr (1, [.ref dg, .int (iI (((dl (rz (V / 10 ^ (dl V - 1200))) : Nat) : Int))), .int (iI (if V / 10 ^ (dl V - 1200) = 0 then 0 else ((dl V : Nat) : Int) + (ex))), .int (iI (hdb V (((dl V : Nat) : Int) - 1200))), .ref q])), (dg, .inl (cB, 1200, .inl g')), (q, .inr (0, [.ref pa, .int (iI ((sz : Int)))])), (pa, .inl (cI, 306, .inl f))], rfl, ⟨g', ⟨gv_le V, gv_rz V, hdz⟩, by simp only [gv_0]; rfl⟩, by rw [ht9]; exact hP, hD⟩, hS.F ht9⟩) hS.2.2 d_Ed_giveScratch_45
set_option maxHeartbeats 4000000 in
set_option maxRecDepth 100000 in
theorem c_Ed_whole (l : Launch) (D : va_G) (cB cI cJ : ClassId) (t5 : Nat) (ad : Nat → Nat) (x dg q pa : Nat) (g f : Nat → Int32) (zs : Int) (zc pt zl : Int) (V : Nat) (hV : V < 2 ^ 64) : c_I l m_Ed_whole (Cond.code m_Ed_whole b_Ed_whole 3 (some .int) :: gw) (rm_ 4 93) (eX t5 ad) D ecl (tyS cB cI cJ) [.ref x, .long (lN V)] [(x, .inr (1, [.ref dg, .int (iI (zc)), .int (iI (pt)), .int (iI (zl)), .ref q])), (dg, .inl (cB, 1200, .inl g)), (q, .inr (0, [.ref pa, .int (iI (zs))])), (pa, .inl (cI, 306, .inl f))] (fun r u => r = iI ((dl (gvD V) : Nat) : Int) ∧ ∃ (g' f' : Nat → Int32) (zs' : Int), nm_ok g' (gvD V) ∧ u = [(x, .inr (1, [.ref dg, .int (iI (((dl (gvD V) : Nat) : Int))), .int (iI (if V = 0 then 0 else ((dl V : Nat) : Int) + 0)), .int (iI (hdb V (((dl V : Nat) : Int) - 1200))), .ref q])), (dg, .inl (cB, 1200, .inl g')), (q, .inr (0, [.ref pa, .int (iI (zs'))])), (pa, .inl (cI, 306, .inl f'))]) 0 0 := by
  intro sz0
  refine Met.ofW (cc := b_Ed_whole) (maxL := 3) (ret := (some .int)) (by decide) rfl ?_
  intro p e s m args below meth c s₁ B hml hv
  obtain ⟨rfl, hsz, hP, hK, hD0, hE⟩ := hv
  have hx := B.exec
  have hb := B.bytes
  have hr := B.returns
  have hts := atoms_spec (ws := Cond.code m_Ed_whole b_Ed_whole 3 (some .int) :: gw) B.pre
  have hown : s.vm.findClass R_Ed = some m.cls := findClass_of_methodNamed B.named
  have hlocks := B.notSynchronized
  subst hsz
  have hD := hD0.self (sz := s.heap.size)
  generalize hAe : va_A [(x, .inr (1, [.ref dg, .int (iI (zc)), .int (iI (pt)), .int (iI (zl)), .ref q])), (dg, .inl (cB, 1200, .inl g)), (q, .inr (0, [.ref pa, .int (iI (zs))])), (pa, .inl (cI, 306, .inl f))] s.heap.size = A at hD hE ⊢
  have hA : ∀ q : Nat, s.heap.size ≤ q → A q := fun q h => by rw [← hAe]; exact Or.inr h
  have hS : va_S A s.heap s.heap [] := va_S.rf
  have hl := lv_entry ([.ref x, .long (lN V)]) (n := 3) (Nat.le_of_ble_eq_true rfl)
  rw [lg_entry_eq]
  generalize (lg_sl ([.ref x, .long (lN V)]) ++ List.replicate (3 - (lg_sl ([.ref x, .long (lN V)])).length) Slot.unset).toArray = ls at hl ⊢
  have hl : lv_has ls 3 [(0, .ref x), (1, .long (lN V))] := hl
  refine lv_aload_n hx hb d_Ed_whole_0 rfl (lv_at hl 0 rfl) ?_
  refine va_get (D := D) (ci := 1) (v := .ref q) (C := R_Ed) (T := T_Ed) (N := 5) hx hb hts (fun w h => List.mem_cons_of_mem _ (in_Ed w h)) hown hK hP 0 rfl rfl 4 (by decide) (hts _ (List.mem_cons_of_mem _ tw_44)) (fun _ h9 => h9) rfl d_Ed_whole_1 ?_
  refine lv_lload_n hx hb d_Ed_whole_4 rfl (lv_at hl 1 rfl) ?_
  refine c_fv (wc := [(q, .inr (0, [.ref pa, .int (iI (zs))])), (pa, .inl (cI, 306, .inl f))]) (wr := [(x, .inr (1, [.ref dg, .int (iI (zc)), .int (iI (pt)), .int (iI (zl)), .ref q])), (dg, .inl (cB, 1200, .inl g))]) (va_runV (C := "ExactDigits$Natural") (As := [.long (lN V)]) (rest := []) ⟨hx, hb, hml, hown, hts⟩ (c_Na_setUnsigned l D cB cI cJ t5 ad q pa f zs V hV s.heap.size) (cwV 1 hts (gV tw_60 tw_61 tw_62 tw_2 tw_63) rfl rfl rfl (by decide +kernel) ⟨Nat.le_of_ble_eq_true rfl, Nat.le_of_ble_eq_true rfl⟩) ⟨c_blind (eX_X t5 ad), va_recv (ci := 0) (q0 := 2) hK hP rfl rfl, fun U hU hW => c_pre (wc := [(q, .inr (0, [.ref pa, .int (iI (zs))])), (pa, .inl (cI, 306, .inl f))]) (eX_X t5 ad) hE hK hP hD hS hA [2, 3] rfl (by decide) U hU hW⟩ rfl rfl hl.1 rfl (lv_room (Nat.le_of_ble_eq_true rfl)) d_Ed_whole_5 ⟨Nat.le_of_ble_eq_true rfl, Nat.le_of_ble_eq_true rfl⟩) hP hD hS hA [2, 3] [0, 1] rfl rfl (by decide) (by decide) (fun u H locs hp hP hD hS => ?_)
  obtain ⟨f2, sz2, rfl, hok⟩ := hp
  have hP : va_P D ecl [(x, .inr (1, [.ref dg, .int (iI (zc)), .int (iI (pt)), .int (iI (zl)), .ref q])), (dg, .inl (cB, 1200, .inl g)), (q, .inr (0, [.ref pa, .int (iI ((sz2 : Int)))])), (pa, .inl (cI, 306, .inl f2))] H := hP
  have hD : va_D A [(x, .inr (1, [.ref dg, .int (iI (zc)), .int (iI (pt)), .int (iI (zl)), .ref q])), (dg, .inl (cB, 1200, .inl g)), (q, .inr (0, [.ref pa, .int (iI ((sz2 : Int)))])), (pa, .inl (cI, 306, .inl f2))] := hD
  refine lv_aload_n hx hb d_Ed_whole_8 rfl (lv_at hl 0 rfl) ?_
  refine lv_iconst (v := iI 0) hx hb d_Ed_whole_9 rfl ?_
  refine c_fv (wc := [(x, .inr (1, [.ref dg, .int (iI (zc)), .int (iI (pt)), .int (iI (zl)), .ref q])), (dg, .inl (cB, 1200, .inl g)), (q, .inr (0, [.ref pa, .int (iI ((sz2 : Int)))])), (pa, .inl (cI, 306, .inl f2))]) (wr := []) (va_runV (C := "ExactDigits") (As := [.int (iI (0))]) (rest := []) ⟨hx, hb, hml, hown, hts⟩ (c_Ed_giveScratch l D cB cI cJ t5 ad x dg q pa g f2 sz2 V zc pt zl 0 (by omega) hok H.size) (cwV 1 hts (gV tw_66 tw_68 ts_0 tw_1 tw_69) rfl rfl rfl (by decide +kernel) ⟨Nat.le_of_ble_eq_true rfl, Nat.le_of_ble_eq_true rfl⟩) ⟨c_blind (eX_X t5 ad), va_recv (ci := 1) (q0 := 0) hK hP rfl rfl, fun U hU hW => c_pre (wc := [(x, .inr (1, [.ref dg, .int (iI (zc)), .int (iI (pt)), .int (iI (zl)), .ref q])), (dg, .inl (cB, 1200, .inl g)), (q, .inr (0, [.ref pa, .int (iI ((sz2 : Int)))])), (pa, .inl (cI, 306, .inl f2))]) (eX_X t5 ad) hE hK hP hD hS hA [0, 1, 2, 3] rfl (by decide) U hU hW⟩ rfl rfl hl.1 rfl (lv_room (Nat.le_of_ble_eq_true rfl)) d_Ed_whole_10 ⟨Nat.le_of_ble_eq_true rfl, Nat.le_of_ble_eq_true rfl⟩) hP hD hS hA [0, 1, 2, 3] [] rfl rfl (by decide) (by decide) (fun u H locs hp hP hD hS => ?_)
  obtain ⟨g2, hnm, rfl⟩ := hp
  have hP : va_P D ecl [(x, .inr (1, [.ref dg, .int (iI (((dl (gvD V) : Nat) : Int))), .int (iI (if V = 0 then 0 else ((dl V : Nat) : Int) + 0)), .int (iI (hdb V (((dl V : Nat) : Int) - 1200))), .ref q])), (dg, .inl (cB, 1200, .inl g2)), (q, .inr (0, [.ref pa, .int (iI ((sz2 : Int)))])), (pa, .inl (cI, 306, .inl f2))] H := hP
  have hD : va_D A [(x, .inr (1, [.ref dg, .int (iI (((dl (gvD V) : Nat) : Int))), .int (iI (if V = 0 then 0 else ((dl V : Nat) : Int) + 0)), .int (iI (hdb V (((dl V : Nat) : Int) - 1200))), .ref q])), (dg, .inl (cB, 1200, .inl g2)), (q, .inr (0, [.ref pa, .int (iI ((sz2 : Int)))])), (pa, .inl (cI, 306, .inl f2))] := hD
  refine ed_pc (pc' := 13) rfl ?_
  refine lv_aload_n hx hb d_Ed_whole_13 rfl (lv_at hl 0 rfl) ?_
  refine va_get (D := D) (ci := 1) (v := .int (iI (((dl (gvD V) : Nat) : Int)))) (C := R_Ed) (T := T_Ed) (N := 5) hx hb hts (fun w h => List.mem_cons_of_mem _ (in_Ed w h)) hown hK hP 0 rfl rfl 1 (by decide) (hts _ (List.mem_cons_of_mem _ tw_41)) (fun _ h9 => h9) rfl d_Ed_whole_14 ?_
  exact W.iret (v := (iI (((dl (gvD V) : Nat) : Int)))) hx hb hr (fun t9 ht9 hW9 => ⟨⟨(iI (((dl (gvD V) : Nat) : Int))), [(x, .inr (1, [.ref dg, .int (iI (((dl (gvD V) : Nat) : Int))), .int (iI (if V = 0 then 0 else ((dl V : Nat) : Int) + 0)), .int (iI (hdb V (((dl V : Nat) : Int) - 1200))), .ref q])), (dg, .inl (cB, 1200, .inl g2)), (q, .inr (0, [.ref pa, .int (iI ((sz2 : Int)))])), (pa, .inl (cI, 306, .inl f2))], rfl, ⟨rfl, g2, f2, _, hnm, rfl⟩, by rw [ht9]; exact hP, hD⟩, hS.F ht9⟩) hS.2.2 d_Ed_whole_17
set_option maxHeartbeats 4000000 in
set_option maxRecDepth 100000 in
theorem c_Ed_digit (l : Launch) (D : va_G) (cB cI cJ : ClassId) (t5 : Nat) (ad : Nat → Nat) (x dg q : Nat) (g : Nat → Int32) (pt zl k : Int) (X : Nat) (hn : nm_ok g X) (hpt : -100000000 ≤ pt ∧ pt ≤ 100000000) (hk : iR k) : c_I l m_Ed_digit (Cond.code m_Ed_digit b_Ed_digit 4 (some .int) :: gw) (rm_ 0 0) (eX t5 ad) D ecl (tyS cB cI cJ) [.ref x, .int (iI (k))] [(x, .inr (1, [.ref dg, .int (iI (((dl X : Nat) : Int))), .int (iI (pt)), .int (iI (zl)), .ref q])), (dg, .inl (cB, 1200, .inl g))] (fun r u => r = iI (dgs X pt k) ∧ u = [(x, .inr (1, [.ref dg, .int (iI (((dl X : Nat) : Int))), .int (iI (pt)), .int (iI (zl)), .ref q])), (dg, .inl (cB, 1200, .inl g))]) 0 0 := by
  intro sz0
  refine Met.ofW (cc := b_Ed_digit) (maxL := 4) (ret := (some .int)) (by decide) rfl ?_
  intro p e s m args below meth c s₁ B hml hv
  obtain ⟨rfl, hsz, hP, hK, hD0, hE⟩ := hv
  have hx := B.exec
  have hb := B.bytes
  have hr := B.returns
  have hts := atoms_spec (ws := Cond.code m_Ed_digit b_Ed_digit 4 (some .int) :: gw) B.pre
  have hown : s.vm.findClass R_Ed = some m.cls := findClass_of_methodNamed B.named
  have hlocks := B.notSynchronized
  subst hsz
  have hD := hD0.self (sz := s.heap.size)
  generalize hAe : va_A [(x, .inr (1, [.ref dg, .int (iI (((dl X : Nat) : Int))), .int (iI (pt)), .int (iI (zl)), .ref q])), (dg, .inl (cB, 1200, .inl g))] s.heap.size = A at hD hE ⊢
  have hA : ∀ q : Nat, s.heap.size ≤ q → A q := fun q h => by rw [← hAe]; exact Or.inr h
  have hS : va_S A s.heap s.heap [] := va_S.rf
  have hl := lv_entry ([.ref x, .int (iI (k))]) (n := 4) (Nat.le_of_ble_eq_true rfl)
  rw [lg_entry_eq]
  generalize (lg_sl ([.ref x, .int (iI (k))]) ++ List.replicate (4 - (lg_sl ([.ref x, .int (iI (k))])).length) Slot.unset).toArray = ls at hl ⊢
  have hl : lv_has ls 4 [(0, .ref x), (1, .int (iI (k)))] := hl
  obtain ⟨hn1, hn2, hn3⟩ := hn
  refine lv_aload_n hx hb d_Ed_digit_0 rfl (lv_at hl 0 rfl) ?_
  refine va_get (D := D) (ci := 1) (v := .int (iI (pt))) (C := R_Ed) (T := T_Ed) (N := 5) hx hb hts (fun w h => List.mem_cons_of_mem _ (in_Ed w h)) hown hK hP 0 rfl rfl 2 (by decide) (hts _ (List.mem_cons_of_mem _ tw_42)) (fun _ h9 => h9) rfl d_Ed_digit_1 ?_
  refine ed_i2l hx hb d_Ed_digit_4 (by omega) ?_
  refine lv_iload_n hx hb d_Ed_digit_5 rfl (lv_at hl 1 rfl) ?_
  refine ed_i2l hx hb d_Ed_digit_6 (by omega) ?_
  refine ed_ladd hx hb d_Ed_digit_7 ?_
  refine lv_lstore_n hx hb d_Ed_digit_8 rfl hl (by decide) rfl (fun ls hl => ?_)
  have hl : lv_has ls 4 [(2, .long (jI ((pt) + (k)))), (0, .ref x), (1, .int (iI (k)))] := hl
  refine ed_pc (pc' := 9) rfl ?_
  refine lv_lload_n hx hb d_Ed_digit_9 rfl (lv_at hl 0 rfl) ?_
  refine lv_lconst (v := jI 0) hx hb d_Ed_digit_10 (by decide +kernel) ?_
  refine ed_lif_lt (tgt := 35) hx hb d_Ed_digit_11 d_Ed_digit_12 rfl (by omega) (by omega) (fun h_1 => ?_) (fun h_1 => ?_)
  · skip
    refine ed_pc (pc' := 35) rfl ?_
    have hd0 : dgs X pt k = 0 := by unfold dgs; rw [if_neg (by omega)]
    refine lv_iconst (v := iI 0) hx hb d_Ed_digit_35 rfl ?_
    exact W.iret (v := (iI (0))) hx hb hr (fun t9 ht9 hW9 => ⟨⟨(iI (0)), [(x, .inr (1, [.ref dg, .int (iI (((dl X : Nat) : Int))), .int (iI (pt)), .int (iI (zl)), .ref q])), (dg, .inl (cB, 1200, .inl g))], rfl, ⟨by rw [hd0], rfl⟩, by rw [ht9]; exact hP, hD⟩, hS.F ht9⟩) hS.2.2 d_Ed_digit_36
  · skip
    refine ed_pc (pc' := 15) rfl ?_
    refine lv_lload_n hx hb d_Ed_digit_15 rfl (lv_at hl 0 rfl) ?_
    refine lv_aload_n hx hb d_Ed_digit_16 rfl (lv_at hl 1 rfl) ?_
    refine va_get (D := D) (ci := 1) (v := .int (iI (((dl X : Nat) : Int)))) (C := R_Ed) (T := T_Ed) (N := 5) hx hb hts (fun w h => List.mem_cons_of_mem _ (in_Ed w h)) hown hK hP 0 rfl rfl 1 (by decide) (hts _ (List.mem_cons_of_mem _ tw_41)) (fun _ h9 => h9) rfl d_Ed_digit_17 ?_
    refine ed_i2l hx hb d_Ed_digit_20 (by omega) ?_
    refine ed_lif_ge (tgt := 35) hx hb d_Ed_digit_21 d_Ed_digit_22 rfl (by omega) (by omega) (fun h_2 => ?_) (fun h_2 => ?_)
    · skip
      refine ed_pc (pc' := 35) rfl ?_
      have hd0 : dgs X pt k = 0 := by unfold dgs; rw [if_neg (by omega)]
      refine ed_pc (pc' := 35) rfl ?_
      refine lv_iconst (v := iI 0) hx hb d_Ed_digit_35 rfl ?_
      exact W.iret (v := (iI (0))) hx hb hr (fun t9 ht9 hW9 => ⟨⟨(iI (0)), [(x, .inr (1, [.ref dg, .int (iI (((dl X : Nat) : Int))), .int (iI (pt)), .int (iI (zl)), .ref q])), (dg, .inl (cB, 1200, .inl g))], rfl, ⟨by rw [hd0], rfl⟩, by rw [ht9]; exact hP, hD⟩, hS.F ht9⟩) hS.2.2 d_Ed_digit_36
    · skip
      refine ed_pc (pc' := 25) rfl ?_
      refine ed_pc (pc' := 25) rfl ?_
      refine lv_aload_n hx hb d_Ed_digit_25 rfl (lv_at hl 1 rfl) ?_
      refine va_get (D := D) (ci := 1) (v := .ref dg) (C := R_Ed) (T := T_Ed) (N := 5) hx hb hts (fun w h => List.mem_cons_of_mem _ (in_Ed w h)) hown hK hP 0 rfl rfl 0 (by decide) (hts _ (List.mem_cons_of_mem _ tw_40)) (fun _ h9 => h9) rfl d_Ed_digit_26 ?_
      refine lv_lload_n hx hb d_Ed_digit_29 rfl (lv_at hl 0 rfl) ?_
      refine ed_l2i hx hb d_Ed_digit_30 ?_
      refine ed_bald (y := dgs X pt k) hx hb hK hP 1 0 rfl rfl ((pt + k).toNat) (by omega) (by omega) (by decide) (by unfold dgs; rw [if_pos (by omega)]; exact hn3 _ (by omega)) d_Ed_digit_31 ?_
      refine lv_goto (tgt := 36) hx hb d_Ed_digit_32 rfl ?_
      exact W.iret (v := (iI (dgs X pt k))) hx hb hr (fun t9 ht9 hW9 => ⟨⟨(iI (dgs X pt k)), [(x, .inr (1, [.ref dg, .int (iI (((dl X : Nat) : Int))), .int (iI (pt)), .int (iI (zl)), .ref q])), (dg, .inl (cB, 1200, .inl g))], rfl, ⟨rfl, rfl⟩, by rw [ht9]; exact hP, hD⟩, hS.F ht9⟩) hS.2.2 d_Ed_digit_36
set_option maxHeartbeats 4000000 in
set_option maxRecDepth 100000 in
theorem c_Ed_digest (l : Launch) (D : va_G) (cB cI cJ : ClassId) (t5 : Nat) (ad : Nat → Nat) (x dg q : Nat) (g : Nat → Int32) (pt zl : Int) (X : Nat) (hn : nm_ok g X) (hpt : -100000000 ≤ pt ∧ pt ≤ 100000000) : c_L l m_Ed_digest (Cond.code m_Ed_digest b_Ed_digest 4 (some .long) :: gw) (rm_ 0 0) (eX t5 ad) D ecl (tyS cB cI cJ) [.ref x] [(x, .inr (1, [.ref dg, .int (iI (((dl X : Nat) : Int))), .int (iI (pt)), .int (iI (zl)), .ref q])), (dg, .inl (cB, 1200, .inl g))] (fun r u => r = hsv X (dl X) * jI 31 + jI pt ∧ u = [(x, .inr (1, [.ref dg, .int (iI (((dl X : Nat) : Int))), .int (iI (pt)), .int (iI (zl)), .ref q])), (dg, .inl (cB, 1200, .inl g))]) 0 0 := by
  intro sz0
  refine Met.ofW (cc := b_Ed_digest) (maxL := 4) (ret := (some .long)) (by decide) rfl ?_
  intro p e s m args below meth c s₁ B hml hv
  obtain ⟨rfl, hsz, hP, hK, hD0, hE⟩ := hv
  have hx := B.exec
  have hb := B.bytes
  have hr := B.returns
  have hts := atoms_spec (ws := Cond.code m_Ed_digest b_Ed_digest 4 (some .long) :: gw) B.pre
  have hown : s.vm.findClass R_Ed = some m.cls := findClass_of_methodNamed B.named
  have hlocks := B.notSynchronized
  subst hsz
  have hD := hD0.self (sz := s.heap.size)
  generalize hAe : va_A [(x, .inr (1, [.ref dg, .int (iI (((dl X : Nat) : Int))), .int (iI (pt)), .int (iI (zl)), .ref q])), (dg, .inl (cB, 1200, .inl g))] s.heap.size = A at hD hE ⊢
  have hA : ∀ q : Nat, s.heap.size ≤ q → A q := fun q h => by rw [← hAe]; exact Or.inr h
  have hS : va_S A s.heap s.heap [] := va_S.rf
  have hl := lv_entry ([.ref x]) (n := 4) (Nat.le_of_ble_eq_true rfl)
  rw [lg_entry_eq]
  generalize (lg_sl ([.ref x]) ++ List.replicate (4 - (lg_sl ([.ref x])).length) Slot.unset).toArray = ls at hl ⊢
  have hl : lv_has ls 4 [(0, .ref x)] := hl
  obtain ⟨hn1, hn2, hn3⟩ := hn
  have L6 : ∀ (n9 : Nat) (i : Nat) (zi : Int) (rv : Int64) (ls : Array Slot) (H : Heap) (locs : List Loc), dl X - i = n9 → (zi = (i : Int)) → (rv = hsv X i) → (i ≤ dl X) → lv_has ls 4 [(0, .ref x), (1, .long (rv)), (3, .int (iI (zi)))] → va_P D ecl [(x, .inr (1, [.ref dg, .int (iI (((dl X : Nat) : Int))), .int (iI (pt)), .int (iI (zl)), .ref q])), (dg, .inl (cB, 1200, .inl g))] H → va_D A [(x, .inr (1, [.ref dg, .int (iI (((dl X : Nat) : Int))), .int (iI (pt)), .int (iI (zl)), .ref q])), (dg, .inl (cB, 1200, .inl g))] → va_S A s.heap H locs → W p l e (headSpec (Cond.code m_Ed_digest b_Ed_digest 4 (some .long) :: gw) (rm_ 0 0)).room s m ([.ref x] : List Value).toArray below meth c H locs 0 0 (MQ below (va_Ql (fun r u => r = hsv X (dl X) * jI 31 + jI pt ∧ u = [(x, .inr (1, [.ref dg, .int (iI (((dl X : Nat) : Int))), .int (iI (pt)), .int (iI (zl)), .ref q])), (dg, .inl (cB, 1200, .inl g))]) (c_B D ecl A) A) ([.ref x] : List Value).toArray s 0 0 A) (F0 m 6 ls []) := by
    intro n9
    induction n9 using Nat.strongRecOn with
    | ind n9 ih =>
    intro i zi rv ls H locs hn9 hi hrv hil hl hP hD hS
    refine lv_iload_n hx hb d_Ed_digest_6 rfl (lv_at hl 2 rfl) ?_
    refine lv_aload_n hx hb d_Ed_digest_7 rfl (lv_at hl 0 rfl) ?_
    refine va_get (D := D) (ci := 1) (v := .int (iI (((dl X : Nat) : Int)))) (C := R_Ed) (T := T_Ed) (N := 5) hx hb hts (fun w h => List.mem_cons_of_mem _ (in_Ed w h)) hown hK hP 0 rfl rfl 1 (by decide) (hts _ (List.mem_cons_of_mem _ tw_41)) (fun _ h9 => h9) rfl d_Ed_digest_8 ?_
    refine ed_icmp_ge (tgt := 34) hx hb d_Ed_digest_11 rfl (by omega) (by omega) (fun h_1 => ?_) (fun h_1 => ?_)
    · skip
      refine ed_pc (pc' := 34) rfl ?_
      refine lv_lload_n hx hb d_Ed_digest_34 rfl (lv_at hl 1 rfl) ?_
      refine lv_ldc2 (v := 31) hx hb hown (hts _ (List.mem_cons_of_mem _ tw_154)) d_Ed_digest_35 ?_
      refine ed_tl (y := (jI (31))) (by decide +kernel) ?_
      refine lv_lmul hx hb d_Ed_digest_38 ?_
      refine ed_pc (pc' := 39) rfl ?_
      refine lv_aload_n hx hb d_Ed_digest_39 rfl (lv_at hl 0 rfl) ?_
      refine va_get (D := D) (ci := 1) (v := .int (iI (pt))) (C := R_Ed) (T := T_Ed) (N := 5) hx hb hts (fun w h => List.mem_cons_of_mem _ (in_Ed w h)) hown hK hP 0 rfl rfl 2 (by decide) (hts _ (List.mem_cons_of_mem _ tw_42)) (fun _ h9 => h9) rfl d_Ed_digest_40 ?_
      refine ed_i2l hx hb d_Ed_digest_43 (by omega) ?_
      refine lv_ladd hx hb d_Ed_digest_44 ?_
      have hie : i = dl X := by omega
      exact W.lret (v := (((rv) * (jI (31))) + (jI (pt)))) hx hb hr (fun t9 ht9 hW9 => ⟨⟨(((rv) * (jI (31))) + (jI (pt))), [(x, .inr (1, [.ref dg, .int (iI (((dl X : Nat) : Int))), .int (iI (pt)), .int (iI (zl)), .ref q])), (dg, .inl (cB, 1200, .inl g))], rfl, ⟨by rw [hrv, hie], rfl⟩, by rw [ht9]; exact hP, hD⟩, hS.F ht9⟩) hS.2.2 d_Ed_digest_45
    · skip
      refine ed_pc (pc' := 14) rfl ?_
      obtain ⟨d0, hd0⟩ : ∃ d0 : Nat, d0 = X / 10 ^ (dl X - 1 - i) % 10 := ⟨_, rfl⟩
      have hd9 : d0 < 10 := by rw [hd0]; exact dg_lt _ _
      refine lv_lload_n hx hb d_Ed_digest_14 rfl (lv_at hl 1 rfl) ?_
      refine lv_ldc2 (v := 31) hx hb hown (hts _ (List.mem_cons_of_mem _ tw_154)) d_Ed_digest_15 ?_
      refine ed_tl (y := (jI (31))) (by decide +kernel) ?_
      refine lv_lmul hx hb d_Ed_digest_18 ?_
      refine ed_pc (pc' := 19) rfl ?_
      refine lv_aload_n hx hb d_Ed_digest_19 rfl (lv_at hl 0 rfl) ?_
      refine va_get (D := D) (ci := 1) (v := .ref dg) (C := R_Ed) (T := T_Ed) (N := 5) hx hb hts (fun w h => List.mem_cons_of_mem _ (in_Ed w h)) hown hK hP 0 rfl rfl 0 (by decide) (hts _ (List.mem_cons_of_mem _ tw_40)) (fun _ h9 => h9) rfl d_Ed_digest_20 ?_
      refine lv_iload_n hx hb d_Ed_digest_23 rfl (lv_at hl 2 rfl) ?_
      refine ed_bald (y := (d0 : Int)) hx hb hK hP 1 0 rfl rfl (i) (by omega) (by omega) (by decide) (by rw [hd0]; exact hn3 i (by omega)) d_Ed_digest_24 ?_
      refine ed_i2l hx hb d_Ed_digest_25 (by omega) ?_
      refine lv_ladd hx hb d_Ed_digest_26 ?_
      refine lv_lstore_n hx hb d_Ed_digest_27 rfl hl (by decide) rfl (fun ls hl => ?_)
      have hl : lv_has ls 4 [(1, .long (((rv) * (jI (31))) + (jI ((d0 : Int))))), (0, .ref x), (3, .int (iI (zi)))] := hl
      refine lv_iinc (k := 2) (v := iI (zi + 1)) hx hb d_Ed_digest_28 hl rfl (iI_add _ _) (by decide) rfl (fun ls hl => ?_)
      have hl : lv_has ls 4 [(3, .int (iI (zi + 1))), (1, .long (((rv) * (jI (31))) + (jI ((d0 : Int))))), (0, .ref x)] := hl
      refine ed_pc (pc' := 31) rfl ?_
      refine lv_goto (tgt := 6) hx hb d_Ed_digest_31 rfl ?_
      have hl := lv_sub hl [2, 1, 0] rfl
      exact ih _ (by omega) (i + 1) _ _ ls H locs rfl (by omega) (by rw [hrv, hd0]; rfl) (by omega) hl hP hD hS
  refine lv_ldc2 (v := 7) hx hb hown (hts _ (List.mem_cons_of_mem _ tw_153)) d_Ed_digest_0 ?_
  refine ed_tl (y := (jI (7))) (by decide +kernel) ?_
  refine lv_lstore_n hx hb d_Ed_digest_3 rfl hl (by decide) rfl (fun ls hl => ?_)
  have hl : lv_has ls 4 [(1, .long (jI (7))), (0, .ref x)] := hl
  refine lv_iconst (v := iI 0) hx hb d_Ed_digest_4 rfl ?_
  refine lv_istore_n hx hb d_Ed_digest_5 rfl hl (by decide) rfl (fun ls hl => ?_)
  have hl : lv_has ls 4 [(3, .int (iI (0))), (1, .long (jI (7))), (0, .ref x)] := hl
  have hl := lv_sub hl [2, 1, 0] rfl
  exact L6 _ (0) _ _ ls s.heap [] rfl (rfl) (rfl) (by omega) hl hP hD hS
end
section
theorem dg_snoc {h : Nat → Int32} {i Y d : Nat} (hh : dg_ok h i Y) (hd : d < 10) : dg_ok (upd h i (iI ((d : Nat) : Int))) (i + 1) (Y * 10 + d) := by
  intro j hj
  by_cases e : j = i
  · subst e
    rw [pk_us]
    have : j + 1 - 1 - j = 0 := by omega
    rw [this, Nat.pow_zero, Nat.div_one]
    congr 2; omega
  · rw [pk_un e, hh j (by omega)]
    have : i + 1 - 1 - j = 1 + (i - 1 - j) := by omega
    rw [this, Nat.pow_add, Nat.pow_one, ← Nat.div_div_eq_div_mul]
    have : (Y * 10 + d) / 10 = Y := by omega
    rw [this]
/-- a digit is set at a place behind all digits -/
def apX (X i d : Nat) : Nat := X * 10 ^ (i - dl X) * 10 + d
theorem ap_dl {X i d : Nat} (hi : dl X ≤ i) (h0 : X = 0 → i = 0) (hd : 0 < d ∧ d < 10) : dl (apX X i d) = i + 1 := by
  unfold apX
  rcases Nat.eq_zero_or_pos X with z | z
  · have := h0 z
    subst z; subst this
    apply dl_un
    · simp; omega
    · intro _; simp; omega
  · have h1 := dl_mul z (i - dl X)
    have e : dl X + (i - dl X) = i := by omega
    rw [e] at h1
    have h2 := dl_lt (X * 10 ^ (i - dl X))
    have h3 := dl_le (Nat.mul_pos z (p10_pos (i - dl X)))
    rw [h1] at h2 h3
    have h4 := dl_pos z
    apply dl_un
    · rw [Nat.pow_succ]; omega
    · intro _
      have e2 : i + 1 - 1 = i - 1 + 1 := by omega
      rw [e2, Nat.pow_succ]; omega
theorem ap_ok {X i d : Nat} {h : Nat → Int32} (hi : dl X ≤ i) (hi2 : i < 1200) (h0 : X = 0 → i = 0) (hd : 0 < d ∧ d < 10) (hh : dg_ok h i (X * 10 ^ (i - dl X))) : nm_ok (upd h i (iI ((d : Nat) : Int))) (apX X i d) := by
  refine ⟨by rw [ap_dl hi h0 hd]; omega, rz_n (by unfold apX; omega), ?_⟩
  rw [ap_dl hi h0 hd]
  exact dg_snoc hh hd.2
theorem ap_z {X i : Nat} {h : Nat → Int32} (hi : dl X ≤ i) (hh : dg_ok h i (X * 10 ^ (i - dl X))) : dg_ok (upd h i (iI 0)) (i + 1) (X * 10 ^ (i + 1 - dl X)) := by
  have := dg_snoc (d := 0) hh (by decide)
  have e : i + 1 - dl X = i - dl X + 1 := by omega
  rw [e, Nat.pow_succ, ← Nat.mul_assoc]
  exact this
/-- the first n digits are kept -/
def kfY (X : Nat) (n : Int) : Nat := X / 10 ^ (dl X - n.toNat)
theorem kf_dl (X : Nat) (n : Int) : dl (kfY X n) = min (dl X) n.toNat := by unfold kfY; rw [dl_div]; omega
theorem kf_ok {g : Nat → Int32} {X : Nat} {n : Int} (h : nm_ok g X) : dl (kfY X n) ≤ 1200 ∧ dg_ok g (dl (kfY X n)) (kfY X n) := by
  obtain ⟨h1, h2, h3⟩ := h
  refine ⟨by rw [kf_dl]; omega, ?_⟩
  rw [kf_dl]
  have := dg_pre (n := min (dl X) n.toNat) h3 (by omega)
  unfold kfY
  have e : dl X - min (dl X) n.toNat = dl X - n.toNat := by omega
  rw [e] at this
  exact this
theorem nm_rz {g : Nat → Int32} {Y : Nat} (h1 : dl Y ≤ 1200) (h : dg_ok g (dl (rz Y)) (rz Y)) : nm_ok g (rz Y) := ⟨Nat.le_trans (dl_mono (rz_le Y)) h1, rz_rz Y, h⟩
/-- one more is counted up in the last of the first n digits -/
theorem om_s {X j n : Nat} (hj : 0 < j) (hjd : j ≤ dl X) (hjn : j ≤ n) (h9 : X / 10 ^ (dl X - j) % 10 = 9) (h : X / 10 ^ (dl X - n) + 1 = (X / 10 ^ (dl X - j) + 1) * 10 ^ (n - j)) :
    X / 10 ^ (dl X - n) + 1 = (X / 10 ^ (dl X - (j - 1)) + 1) * 10 ^ (n - (j - 1)) := by
  rw [h]
  have e1 : dl X - (j - 1) = dl X - j + 1 := by omega
  have e2 : n - (j - 1) = n - j + 1 := by omega
  rw [e1, e2, Nat.pow_succ 10 (dl X - j), ← Nat.div_div_eq_div_mul, Nat.pow_succ, Nat.mul_comm (10 ^ (n - j)) 10, ← Nat.mul_assoc]
  congr 1
  omega
theorem om_a {X n : Nat} (h : X / 10 ^ (dl X - n) + 1 = (X / 10 ^ (dl X - 0) + 1) * 10 ^ (n - 0)) : X / 10 ^ (dl X - n) + 1 = 10 ^ n := by
  rw [h, Nat.sub_zero, Nat.sub_zero, Nat.div_eq_of_lt (dl_lt X)]; simp
theorem om_b {g : Nat → Int32} {X j n d : Nat} (hg : nm_ok g X) (hj : 0 < j) (hjd : j ≤ dl X) (hjn : j ≤ n) (hd : d = X / 10 ^ (dl X - j) % 10) (h9 : ¬ d = 9) (h : X / 10 ^ (dl X - n) + 1 = (X / 10 ^ (dl X - j) + 1) * 10 ^ (n - j)) :
    rz (X / 10 ^ (dl X - n) + 1) = X / 10 ^ (dl X - j) + 1 ∧ dl (X / 10 ^ (dl X - j) + 1) = j ∧ ¬ X / 10 ^ (dl X - n) + 1 = 10 ^ n ∧ nm_ok (upd g (j - 1) (iI ((d + 1 : Nat) : Int))) (X / 10 ^ (dl X - j) + 1) := by
  have hd9 : d < 10 := by rw [hd]; exact Nat.mod_lt _ (by decide)
  have hXp : 0 < X := by
    rcases Nat.eq_zero_or_pos X with z | z
    · rw [z, dl_0] at hjd; omega
    · exact z
  obtain ⟨Z, hZ⟩ : ∃ Z, Z = X / 10 ^ (dl X - j) := ⟨_, rfl⟩
  rw [← hZ] at hd h ⊢
  have hzl : dl Z = j := by rw [hZ, dl_div]; omega
  have hzlt := dl_lt Z
  have hzge : 10 ^ (j - 1) ≤ Z := by
    have hZp : 0 < Z := by
      rcases Nat.eq_zero_or_pos Z with z | z
      · rw [z, dl_0] at hzl; omega
      · exact z
    have := dl_le hZp; rwa [hzl] at this
  rw [hzl] at hzlt
  have ej : 10 ^ j = 10 ^ (j - 1) * 10 := by rw [← Nat.pow_succ]; congr 1; omega
  have hdl : dl (Z + 1) = j := by
    apply dl_un
    · rw [ej] at hzlt ⊢; omega
    · intro _; omega
  have hrz : rz (Z + 1) = Z + 1 := rz_n (by omega)
  refine ⟨by rw [h, rz_mul, hrz], hdl, ?_, ?_⟩
  · intro z
    rw [h] at z
    have e : 10 ^ n = 10 ^ j * 10 ^ (n - j) := by rw [← Nat.pow_add]; congr 1; omega
    rw [e] at z
    have := Nat.eq_of_mul_eq_mul_right (p10_pos (n - j)) z
    rw [this] at hdl
    have := dl_mul (n := 1) (by decide) j
    rw [Nat.one_mul] at this
    rw [this] at hdl
    have : dl 1 = 1 := by rw [dl_s (by decide)]; show dl 0 + 1 = 1; rw [dl_0]
    omega
  · refine ⟨by rw [hdl]; have := hg.1; omega, hrz, ?_⟩
    rw [hdl]
    have h2 := dg_pre (n := j) hg.2.2 hjd
    rw [← hZ] at h2
    have e1 : j - 1 + 1 = j := by omega
    have h3 : dg_ok g (j - 1) (Z / 10) := dg_drop (by rw [e1]; exact h2)
    have h4 := dg_snoc (d := d + 1) h3 (by omega)
    rw [e1] at h4
    have e2 : Z / 10 * 10 + (d + 1) = Z + 1 := by omega
    rw [e2] at h4
    exact h4
theorem nm_1 (g : Nat → Int32) : nm_ok (upd g 0 (iI 1)) 1 ∧ dl 1 = 1 := by
  have h1 : dl 1 = 1 := by rw [dl_s (by decide)]; show dl 0 + 1 = 1; rw [dl_0]
  refine ⟨⟨by omega, rz_n (by decide), ?_⟩, h1⟩
  rw [h1]
  intro i hi
  have : i = 0 := by omega
  subst this
  rw [pk_us]; rfl
theorem rz_p10 (n : Nat) : rz (10 ^ n) = 1 := rz_un (t := n) (by rw [Nat.one_mul]) (by decide)
end
section
set_option maxHeartbeats 4000000 in
set_option maxRecDepth 100000 in
theorem c_Ed_append (l : Launch) (D : va_G) (cB cI cJ : ClassId) (t5 : Nat) (ad : Nat → Nat) (x dg q : Nat) (g : Nat → Int32) (pt zl k : Int) (X i d : Nat) (hn : nm_ok g X) (hi : dl X ≤ i) (hi2 : i < 1200) (h0 : X = 0 → i = 0) (hd : 0 < d ∧ d < 10) (hk : iR k) : c_V l m_Ed_append (Cond.code m_Ed_append b_Ed_append 5 none :: gw) (rm_ 0 0) (eX t5 ad) D ecl (tyS cB cI cJ) [.ref x, .int (iI ((i : Int))), .int (iI (k)), .int (iI ((d : Int)))] [(x, .inr (1, [.ref dg, .int (iI (((dl X : Nat) : Int))), .int (iI (pt)), .int (iI (zl)), .ref q])), (dg, .inl (cB, 1200, .inl g))] (fun u => ∃ g' : Nat → Int32, nm_ok g' (apX X i d) ∧ u = [(x, .inr (1, [.ref dg, .int (iI (((dl (apX X i d) : Nat) : Int))), .int (iI (if X = 0 then -k else pt)), .int (iI (zl)), .ref q])), (dg, .inl (cB, 1200, .inl g'))]) 0 0 := by
  intro sz0
  refine Met.ofW (cc := b_Ed_append) (maxL := 5) (ret := none) (by decide) rfl ?_
  intro p e s m args below meth c s₁ B hml hv
  obtain ⟨rfl, hsz, hP, hK, hD0, hE⟩ := hv
  have hx := B.exec
  have hb := B.bytes
  have hr := B.returns
  have hts := atoms_spec (ws := Cond.code m_Ed_append b_Ed_append 5 none :: gw) B.pre
  have hown : s.vm.findClass R_Ed = some m.cls := findClass_of_methodNamed B.named
  have hlocks := B.notSynchronized
  subst hsz
  have hD := hD0.self (sz := s.heap.size)
  generalize hAe : va_A [(x, .inr (1, [.ref dg, .int (iI (((dl X : Nat) : Int))), .int (iI (pt)), .int (iI (zl)), .ref q])), (dg, .inl (cB, 1200, .inl g))] s.heap.size = A at hD hE ⊢
  have hA : ∀ q : Nat, s.heap.size ≤ q → A q := fun q h => by rw [← hAe]; exact Or.inr h
  have hS : va_S A s.heap s.heap [] := va_S.rf
  have hl := lv_entry ([.ref x, .int (iI ((i : Int))), .int (iI (k)), .int (iI ((d : Int)))]) (n := 5) (Nat.le_of_ble_eq_true rfl)
  rw [lg_entry_eq]
  generalize (lg_sl ([.ref x, .int (iI ((i : Int))), .int (iI (k)), .int (iI ((d : Int)))]) ++ List.replicate (5 - (lg_sl ([.ref x, .int (iI ((i : Int))), .int (iI (k)), .int (iI ((d : Int)))])).length) Slot.unset).toArray = ls at hl ⊢
  have hl : lv_has ls 5 [(0, .ref x), (1, .int (iI ((i : Int)))), (2, .int (iI (k))), (3, .int (iI ((d : Int))))] := hl
  have hd0 : dl X = 0 ↔ X = 0 := ⟨fun z => dl_eq0 z, fun z => by rw [z, dl_0]⟩
  have L19 : ∀ (n9 : Nat) (j : Nat) (h : Nat → Int32) (zj : Int) (zp : Int) (ls : Array Slot) (H : Heap) (locs : List Loc), i - j = n9 → (zj = (j : Int)) → (zp = if X = 0 then -k else pt) → (dl X ≤ j) → (j ≤ i) → (dg_ok h j (X * 10 ^ (j - dl X))) → lv_has ls 5 [(0, .ref x), (1, .int (iI ((i : Int)))), (3, .int (iI ((d : Int)))), (4, .int (iI (zj)))] → va_P D ecl [(x, .inr (1, [.ref dg, .int (iI (((dl X : Nat) : Int))), .int (iI (zp)), .int (iI (zl)), .ref q])), (dg, .inl (cB, 1200, .inl h))] H → va_D A [(x, .inr (1, [.ref dg, .int (iI (((dl X : Nat) : Int))), .int (iI (zp)), .int (iI (zl)), .ref q])), (dg, .inl (cB, 1200, .inl h))] → va_S A s.heap H locs → W p l e (headSpec (Cond.code m_Ed_append b_Ed_append 5 none :: gw) (rm_ 0 0)).room s m ([.ref x, .int (iI ((i : Int))), .int (iI (k)), .int (iI ((d : Int)))] : List Value).toArray below meth c H locs 0 0 (MQ below (va_Qv (fun u => ∃ g' : Nat → Int32, nm_ok g' (apX X i d) ∧ u = [(x, .inr (1, [.ref dg, .int (iI (((dl (apX X i d) : Nat) : Int))), .int (iI (if X = 0 then -k else pt)), .int (iI (zl)), .ref q])), (dg, .inl (cB, 1200, .inl g'))]) (c_B D ecl A) A) ([.ref x, .int (iI ((i : Int))), .int (iI (k)), .int (iI ((d : Int)))] : List Value).toArray s 0 0 A) (F0 m 19 ls []) := by
    intro n9
    induction n9 using Nat.strongRecOn with
    | ind n9 ih =>
    intro j h zj zp ls H locs hn9 hj hzp hj1 hj2 hjg hl hP hD hS
    refine lv_iload hx hb d_Ed_append_19 (lv_at hl 3 rfl) ?_
    refine lv_iload_n hx hb d_Ed_append_21 rfl (lv_at hl 1 rfl) ?_
    refine ed_icmp_ge (tgt := 39) hx hb d_Ed_append_22 rfl (by omega) (by omega) (fun h_1 => ?_) (fun h_1 => ?_)
    · skip
      refine ed_pc (pc' := 39) rfl ?_
      refine lv_aload_n hx hb d_Ed_append_39 rfl (lv_at hl 0 rfl) ?_
      refine va_get (D := D) (ci := 1) (v := .ref dg) (C := R_Ed) (T := T_Ed) (N := 5) hx hb hts (fun w h => List.mem_cons_of_mem _ (in_Ed w h)) hown hK hP 0 rfl rfl 0 (by decide) (hts _ (List.mem_cons_of_mem _ tw_40)) (fun _ h9 => h9) rfl d_Ed_append_40 ?_
      refine lv_iload_n hx hb d_Ed_append_43 rfl (lv_at hl 1 rfl) ?_
      refine lv_iload_n hx hb d_Ed_append_44 rfl (lv_at hl 2 rfl) ?_
      refine ed_pc (pc' := 45) rfl ?_
      refine ed_i2b hx hb d_Ed_append_45 (by omega) ?_
      refine ed_bast hx hb hK hP hD hS 1 0 rfl rfl (i) (by omega) (by omega) (by decide) (by omega) d_Ed_append_46 (fun H locs hP hD hS => ?_)
      have hP : va_P D ecl [(x, .inr (1, [.ref dg, .int (iI (((dl X : Nat) : Int))), .int (iI (zp)), .int (iI (zl)), .ref q])), (dg, .inl (cB, 1200, .inl (upd h (i) ((iI ((d : Int)))))))] H := hP
      have hD : va_D A [(x, .inr (1, [.ref dg, .int (iI (((dl X : Nat) : Int))), .int (iI (zp)), .int (iI (zl)), .ref q])), (dg, .inl (cB, 1200, .inl (upd h (i) ((iI ((d : Int)))))))] := hD
      refine lv_aload_n hx hb d_Ed_append_47 rfl (lv_at hl 0 rfl) ?_
      refine lv_iload_n hx hb d_Ed_append_48 rfl (lv_at hl 1 rfl) ?_
      refine lv_iconst (v := iI 1) hx hb d_Ed_append_49 rfl ?_
      refine ed_iadd hx hb d_Ed_append_50 ?_
      refine va_put (D := D) (ci := 1) (v := .int (iI (((i : Int)) + (1)))) (ty := .int) (C := R_Ed) (T := T_Ed) (N := 5) hx hb hts (fun w h => List.mem_cons_of_mem _ (in_Ed w h)) y_Ed t_Ed n_Ed hown hK hP hD hS 0 rfl rfl 1 (by decide) (hts _ (List.mem_cons_of_mem _ tw_41)) (fun _ h9 => h9) rfl (by decide +kernel) rfl rfl (Nat.le_of_ble_eq_true rfl) d_Ed_append_51 (fun H locs hP hD hS => ?_)
      have hP : va_P D ecl [(x, .inr (1, [.ref dg, .int (iI (((i : Int)) + (1))), .int (iI (zp)), .int (iI (zl)), .ref q])), (dg, .inl (cB, 1200, .inl (upd h (i) ((iI ((d : Int)))))))] H := hP
      have hD : va_D A [(x, .inr (1, [.ref dg, .int (iI (((i : Int)) + (1))), .int (iI (zp)), .int (iI (zl)), .ref q])), (dg, .inl (cB, 1200, .inl (upd h (i) ((iI ((d : Int)))))))] := hD
      have hji : j = i := by omega
      rw [hji] at hjg
      exact W.vret hx hb hr (fun t9 ht9 hW9 => ⟨⟨[(x, .inr (1, [.ref dg, .int (iI (((i : Int)) + (1))), .int (iI (zp)), .int (iI (zl)), .ref q])), (dg, .inl (cB, 1200, .inl (upd h (i) ((iI ((d : Int)))))))], rfl, ⟨upd h i (iI ((d : Nat) : Int)), ap_ok hi hi2 h0 hd hjg, by rw [ap_dl hi h0 hd, hzp]; rfl⟩, by rw [ht9]; exact hP, hD⟩, hS.F ht9⟩) hS.2.2 d_Ed_append_54
    · skip
      refine ed_pc (pc' := 25) rfl ?_
      refine lv_aload_n hx hb d_Ed_append_25 rfl (lv_at hl 0 rfl) ?_
      refine va_get (D := D) (ci := 1) (v := .ref dg) (C := R_Ed) (T := T_Ed) (N := 5) hx hb hts (fun w h => List.mem_cons_of_mem _ (in_Ed w h)) hown hK hP 0 rfl rfl 0 (by decide) (hts _ (List.mem_cons_of_mem _ tw_40)) (fun _ h9 => h9) rfl d_Ed_append_26 ?_
      refine lv_iload hx hb d_Ed_append_29 (lv_at hl 3 rfl) ?_
      refine lv_iconst (v := iI 0) hx hb d_Ed_append_31 rfl ?_
      refine ed_pc (pc' := 32) rfl ?_
      refine ed_bast hx hb hK hP hD hS 1 0 rfl rfl (j) (by omega) (by omega) (by decide) (by omega) d_Ed_append_32 (fun H locs hP hD hS => ?_)
      have hP : va_P D ecl [(x, .inr (1, [.ref dg, .int (iI (((dl X : Nat) : Int))), .int (iI (zp)), .int (iI (zl)), .ref q])), (dg, .inl (cB, 1200, .inl (upd h (j) ((iI (0))))))] H := hP
      have hD : va_D A [(x, .inr (1, [.ref dg, .int (iI (((dl X : Nat) : Int))), .int (iI (zp)), .int (iI (zl)), .ref q])), (dg, .inl (cB, 1200, .inl (upd h (j) ((iI (0))))))] := hD
      refine lv_iinc (k := 3) (v := iI (zj + 1)) hx hb d_Ed_append_33 hl rfl (iI_add _ _) (by decide) rfl (fun ls hl => ?_)
      have hl : lv_has ls 5 [(4, .int (iI (zj + 1))), (0, .ref x), (1, .int (iI ((i : Int)))), (3, .int (iI ((d : Int))))] := hl
      refine lv_goto (tgt := 19) hx hb d_Ed_append_36 rfl ?_
      have hl := lv_sub hl [1, 2, 3, 0] rfl
      exact ih _ (by omega) (j + 1) (upd h j (iI 0)) _ _ ls H locs rfl (by omega) (hzp) (by omega) (by omega) (ap_z hj1 hjg) hl hP hD hS
  refine lv_aload_n hx hb d_Ed_append_0 rfl (lv_at hl 0 rfl) ?_
  refine va_get (D := D) (ci := 1) (v := .int (iI (((dl X : Nat) : Int)))) (C := R_Ed) (T := T_Ed) (N := 5) hx hb hts (fun w h => List.mem_cons_of_mem _ (in_Ed w h)) hown hK hP 0 rfl rfl 1 (by decide) (hts _ (List.mem_cons_of_mem _ tw_41)) (fun _ h9 => h9) rfl d_Ed_append_1 ?_
  refine ed_if_ne (tgt := 13) hx hb d_Ed_append_4 rfl (by omega) (fun h_2 => ?_) (fun h_2 => ?_)
  · skip
    refine ed_pc (pc' := 13) rfl ?_
    refine lv_aload_n hx hb d_Ed_append_13 rfl (lv_at hl 0 rfl) ?_
    refine va_get (D := D) (ci := 1) (v := .int (iI (((dl X : Nat) : Int)))) (C := R_Ed) (T := T_Ed) (N := 5) hx hb hts (fun w h => List.mem_cons_of_mem _ (in_Ed w h)) hown hK hP 0 rfl rfl 1 (by decide) (hts _ (List.mem_cons_of_mem _ tw_41)) (fun _ h9 => h9) rfl d_Ed_append_14 ?_
    refine lv_istore hx hb d_Ed_append_17 hl (by decide) rfl (fun ls hl => ?_)
    have hl : lv_has ls 5 [(4, .int (iI (((dl X : Nat) : Int)))), (0, .ref x), (1, .int (iI ((i : Int)))), (2, .int (iI (k))), (3, .int (iI ((d : Int))))] := hl
    have hl := lv_sub hl [1, 2, 4, 0] rfl
    exact L19 _ (dl X) (g) _ _ ls s.heap [] rfl (rfl) (by rw [if_neg (by omega)]) (Nat.le_refl _) (hi) (by rw [Nat.sub_self, Nat.pow_zero, Nat.mul_one]; exact hn.2.2) hl hP hD hS
  · skip
    refine ed_pc (pc' := 7) rfl ?_
    refine lv_aload_n hx hb d_Ed_append_7 rfl (lv_at hl 0 rfl) ?_
    refine lv_iload_n hx hb d_Ed_append_8 rfl (lv_at hl 2 rfl) ?_
    refine ed_ineg hx hb d_Ed_append_9 ?_
    refine va_put (D := D) (ci := 1) (v := .int (iI (-(k)))) (ty := .int) (C := R_Ed) (T := T_Ed) (N := 5) hx hb hts (fun w h => List.mem_cons_of_mem _ (in_Ed w h)) y_Ed t_Ed n_Ed hown hK hP hD hS 0 rfl rfl 2 (by decide) (hts _ (List.mem_cons_of_mem _ tw_42)) (fun _ h9 => h9) rfl (by decide +kernel) rfl rfl (Nat.le_of_ble_eq_true rfl) d_Ed_append_10 (fun H locs hP hD hS => ?_)
    have hP : va_P D ecl [(x, .inr (1, [.ref dg, .int (iI (((dl X : Nat) : Int))), .int (iI (-(k))), .int (iI (zl)), .ref q])), (dg, .inl (cB, 1200, .inl g))] H := hP
    have hD : va_D A [(x, .inr (1, [.ref dg, .int (iI (((dl X : Nat) : Int))), .int (iI (-(k))), .int (iI (zl)), .ref q])), (dg, .inl (cB, 1200, .inl g))] := hD
    refine ed_pc (pc' := 13) rfl ?_
    refine lv_aload_n hx hb d_Ed_append_13 rfl (lv_at hl 0 rfl) ?_
    refine va_get (D := D) (ci := 1) (v := .int (iI (((dl X : Nat) : Int)))) (C := R_Ed) (T := T_Ed) (N := 5) hx hb hts (fun w h => List.mem_cons_of_mem _ (in_Ed w h)) hown hK hP 0 rfl rfl 1 (by decide) (hts _ (List.mem_cons_of_mem _ tw_41)) (fun _ h9 => h9) rfl d_Ed_append_14 ?_
    refine lv_istore hx hb d_Ed_append_17 hl (by decide) rfl (fun ls hl => ?_)
    have hl : lv_has ls 5 [(4, .int (iI (((dl X : Nat) : Int)))), (0, .ref x), (1, .int (iI ((i : Int)))), (2, .int (iI (k))), (3, .int (iI ((d : Int))))] := hl
    have hl := lv_sub hl [1, 2, 4, 0] rfl
    exact L19 _ (dl X) (g) _ _ ls H locs rfl (rfl) (by rw [if_pos (by omega)]) (Nat.le_refl _) (hi) (by rw [Nat.sub_self, Nat.pow_zero, Nat.mul_one]; exact hn.2.2) hl hP hD hS
set_option maxHeartbeats 4000000 in
set_option maxRecDepth 100000 in
theorem c_Ed_keepFirst (l : Launch) (D : va_G) (cB cI cJ : ClassId) (t5 : Nat) (ad : Nat → Nat) (x dg q : Nat) (g : Nat → Int32) (pt zl n : Int) (X : Nat) (hn : nm_ok g X) (hnr : iR n) : c_V l m_Ed_keepFirst (Cond.code m_Ed_keepFirst b_Ed_keepFirst 2 none :: gw) (rm_ 1 21) (eX t5 ad) D ecl (tyS cB cI cJ) [.ref x, .int (iI (n))] [(x, .inr (1, [.ref dg, .int (iI (((dl X : Nat) : Int))), .int (iI (pt)), .int (iI (zl)), .ref q])), (dg, .inl (cB, 1200, .inl g))] (fun u => nm_ok g (rz (kfY X n)) ∧ u = [(x, .inr (1, [.ref dg, .int (iI (((dl (rz (kfY X n)) : Nat) : Int))), .int (iI (if kfY X n = 0 then 0 else pt)), .int (iI (0)), .ref q])), (dg, .inl (cB, 1200, .inl g))]) 0 0 := by
  intro sz0
  refine Met.ofW (cc := b_Ed_keepFirst) (maxL := 2) (ret := none) (by decide) rfl ?_
  intro p e s m args below meth c s₁ B hml hv
  obtain ⟨rfl, hsz, hP, hK, hD0, hE⟩ := hv
  have hx := B.exec
  have hb := B.bytes
  have hr := B.returns
  have hts := atoms_spec (ws := Cond.code m_Ed_keepFirst b_Ed_keepFirst 2 none :: gw) B.pre
  have hown : s.vm.findClass R_Ed = some m.cls := findClass_of_methodNamed B.named
  have hlocks := B.notSynchronized
  subst hsz
  have hD := hD0.self (sz := s.heap.size)
  generalize hAe : va_A [(x, .inr (1, [.ref dg, .int (iI (((dl X : Nat) : Int))), .int (iI (pt)), .int (iI (zl)), .ref q])), (dg, .inl (cB, 1200, .inl g))] s.heap.size = A at hD hE ⊢
  have hA : ∀ q : Nat, s.heap.size ≤ q → A q := fun q h => by rw [← hAe]; exact Or.inr h
  have hS : va_S A s.heap s.heap [] := va_S.rf
  have hl := lv_entry ([.ref x, .int (iI (n))]) (n := 2) (Nat.le_of_ble_eq_true rfl)
  rw [lg_entry_eq]
  generalize (lg_sl ([.ref x, .int (iI (n))]) ++ List.replicate (2 - (lg_sl ([.ref x, .int (iI (n))])).length) Slot.unset).toArray = ls at hl ⊢
  have hl : lv_has ls 2 [(0, .ref x), (1, .int (iI (n)))] := hl
  have hk9 := kf_ok (n := n) hn
  have hd12 := hn.1
  refine lv_aload_n hx hb d_Ed_keepFirst_0 rfl (lv_at hl 0 rfl) ?_
  refine lv_aload_n hx hb d_Ed_keepFirst_1 rfl (lv_at hl 0 rfl) ?_
  refine va_get (D := D) (ci := 1) (v := .int (iI (((dl X : Nat) : Int)))) (C := R_Ed) (T := T_Ed) (N := 5) hx hb hts (fun w h => List.mem_cons_of_mem _ (in_Ed w h)) hown hK hP 0 rfl rfl 1 (by decide) (hts _ (List.mem_cons_of_mem _ tw_41)) (fun _ h9 => h9) rfl d_Ed_keepFirst_2 ?_
  refine lv_iload_n hx hb d_Ed_keepFirst_5 rfl (lv_at hl 1 rfl) ?_
  refine lv_iconst (v := iI 0) hx hb d_Ed_keepFirst_6 rfl ?_
  refine ed_max hx hb (hml.trans hl.1.symm) hown (hts _ (List.mem_cons_of_mem _ tw_332)) (hts _ (List.mem_cons_of_mem _ tw_146)) (hts _ (List.mem_cons_of_mem _ tw_6)) (hts _ (List.mem_cons_of_mem _ tw_147)) (Nat.le_of_ble_eq_true rfl) (Nat.le_of_ble_eq_true rfl) (Nat.le_of_ble_eq_true rfl) (Nat.le_of_ble_eq_true rfl) (by omega) (by omega) d_Ed_keepFirst_7 ?_
  refine ed_min hx hb (hml.trans hl.1.symm) hown (hts _ (List.mem_cons_of_mem _ tw_86)) (hts _ (List.mem_cons_of_mem _ tw_84)) (hts _ (List.mem_cons_of_mem _ tw_6)) (hts _ (List.mem_cons_of_mem _ tw_85)) (Nat.le_of_ble_eq_true rfl) (Nat.le_of_ble_eq_true rfl) (Nat.le_of_ble_eq_true rfl) (Nat.le_of_ble_eq_true rfl) (by omega) (by omega) d_Ed_keepFirst_10 ?_
  refine ed_tz (y := ((dl (kfY X n) : Nat) : Int)) (by rw [kf_dl]; omega) ?_
  refine ed_pc (pc' := 13) rfl ?_
  refine va_put (D := D) (ci := 1) (v := .int (iI (((dl (kfY X n) : Nat) : Int)))) (ty := .int) (C := R_Ed) (T := T_Ed) (N := 5) hx hb hts (fun w h => List.mem_cons_of_mem _ (in_Ed w h)) y_Ed t_Ed n_Ed hown hK hP hD hS 0 rfl rfl 1 (by decide) (hts _ (List.mem_cons_of_mem _ tw_41)) (fun _ h9 => h9) rfl (by decide +kernel) rfl rfl (Nat.le_of_ble_eq_true rfl) d_Ed_keepFirst_13 (fun H locs hP hD hS => ?_)
  have hP : va_P D ecl [(x, .inr (1, [.ref dg, .int (iI (((dl (kfY X n) : Nat) : Int))), .int (iI (pt)), .int (iI (zl)), .ref q])), (dg, .inl (cB, 1200, .inl g))] H := hP
  have hD : va_D A [(x, .inr (1, [.ref dg, .int (iI (((dl (kfY X n) : Nat) : Int))), .int (iI (pt)), .int (iI (zl)), .ref q])), (dg, .inl (cB, 1200, .inl g))] := hD
  refine lv_aload_n hx hb d_Ed_keepFirst_16 rfl (lv_at hl 0 rfl) ?_
  refine lv_iconst (v := iI 0) hx hb d_Ed_keepFirst_17 rfl ?_
  refine va_put (D := D) (ci := 1) (v := .int (iI (0))) (ty := .boolean) (C := R_Ed) (T := T_Ed) (N := 5) hx hb hts (fun w h => List.mem_cons_of_mem _ (in_Ed w h)) y_Ed t_Ed n_Ed hown hK hP hD hS 0 rfl rfl 3 (by decide) (hts _ (List.mem_cons_of_mem _ tw_43)) (fun _ h9 => h9) rfl (by decide +kernel) (by decide +kernel) (by decide +kernel) (Nat.le_of_ble_eq_true rfl) d_Ed_keepFirst_18 (fun H locs hP hD hS => ?_)
  have hP : va_P D ecl [(x, .inr (1, [.ref dg, .int (iI (((dl (kfY X n) : Nat) : Int))), .int (iI (pt)), .int (iI (0)), .ref q])), (dg, .inl (cB, 1200, .inl g))] H := hP
  have hD : va_D A [(x, .inr (1, [.ref dg, .int (iI (((dl (kfY X n) : Nat) : Int))), .int (iI (pt)), .int (iI (0)), .ref q])), (dg, .inl (cB, 1200, .inl g))] := hD
  refine lv_aload_n hx hb d_Ed_keepFirst_21 rfl (lv_at hl 0 rfl) ?_
  refine c_fv (wc := [(x, .inr (1, [.ref dg, .int (iI (((dl (kfY X n) : Nat) : Int))), .int (iI (pt)), .int (iI (0)), .ref q])), (dg, .inl (cB, 1200, .inl g))]) (wr := []) (va_runV (C := "ExactDigits") (As := []) (rest := []) ⟨hx, hb, hml, hown, hts⟩ (c_Ed_dropZerosBehind l D cB cI cJ t5 ad x dg q g pt 0 (kfY X n) hk9.1 hk9.2 H.size) (cwV 0 hts (gV tw_87 tw_89 ts_1 tw_1 tw_90) rfl rfl rfl (by decide +kernel) ⟨Nat.le_of_ble_eq_true rfl, Nat.le_of_ble_eq_true rfl⟩) ⟨c_blind (eX_X t5 ad), va_recv (ci := 1) (q0 := 0) hK hP rfl rfl, fun U hU hW => c_pre (wc := [(x, .inr (1, [.ref dg, .int (iI (((dl (kfY X n) : Nat) : Int))), .int (iI (pt)), .int (iI (0)), .ref q])), (dg, .inl (cB, 1200, .inl g))]) (eX_X t5 ad) hE hK hP hD hS hA [0, 1] rfl (by decide) U hU hW⟩ rfl rfl hl.1 rfl (lv_room (Nat.le_of_ble_eq_true rfl)) d_Ed_keepFirst_22 ⟨Nat.le_of_ble_eq_true rfl, Nat.le_of_ble_eq_true rfl⟩) hP hD hS hA [0, 1] [] rfl rfl (by decide) (by decide) (fun u H locs hp hP hD hS => ?_)
  obtain ⟨hdz, rfl⟩ := hp
  have hP : va_P D ecl [(x, .inr (1, [.ref dg, .int (iI (((dl (rz (kfY X n)) : Nat) : Int))), .int (iI (if kfY X n = 0 then 0 else pt)), .int (iI (0)), .ref q])), (dg, .inl (cB, 1200, .inl g))] H := hP
  have hD : va_D A [(x, .inr (1, [.ref dg, .int (iI (((dl (rz (kfY X n)) : Nat) : Int))), .int (iI (if kfY X n = 0 then 0 else pt)), .int (iI (0)), .ref q])), (dg, .inl (cB, 1200, .inl g))] := hD
  exact W.vret hx hb hr (fun t9 ht9 hW9 => ⟨⟨[(x, .inr (1, [.ref dg, .int (iI (((dl (rz (kfY X n)) : Nat) : Int))), .int (iI (if kfY X n = 0 then 0 else pt)), .int (iI (0)), .ref q])), (dg, .inl (cB, 1200, .inl g))], rfl, ⟨nm_rz hk9.1 hdz, rfl⟩, by rw [ht9]; exact hP, hD⟩, hS.F ht9⟩) hS.2.2 d_Ed_keepFirst_25
set_option maxHeartbeats 4000000 in
set_option maxRecDepth 100000 in
theorem c_Ed_keepFirstAndOneMore (l : Launch) (D : va_G) (cB cI cJ : ClassId) (t5 : Nat) (ad : Nat → Nat) (x dg q : Nat) (g : Nat → Int32) (pt zl : Int) (X n : Nat) (hn : nm_ok g X) (hnd : n ≤ dl X) : c_V l m_Ed_keepFirstAndOneMore (Cond.code m_Ed_keepFirstAndOneMore b_Ed_keepFirstAndOneMore 3 none :: gw) (rm_ 0 0) (eX t5 ad) D ecl (tyS cB cI cJ) [.ref x, .int (iI ((n : Int)))] [(x, .inr (1, [.ref dg, .int (iI (((dl X : Nat) : Int))), .int (iI (pt)), .int (iI (zl)), .ref q])), (dg, .inl (cB, 1200, .inl g))] (fun u => ∃ g' : Nat → Int32, nm_ok g' (rz (X / 10 ^ (dl X - n) + 1)) ∧ u = [(x, .inr (1, [.ref dg, .int (iI (((dl (rz (X / 10 ^ (dl X - n) + 1)) : Nat) : Int))), .int (iI (if (X / 10 ^ (dl X - n) + 1) = 10 ^ n then pt + 1 else pt)), .int (iI (0)), .ref q])), (dg, .inl (cB, 1200, .inl g'))]) 0 0 := by
  intro sz0
  refine Met.ofW (cc := b_Ed_keepFirstAndOneMore) (maxL := 3) (ret := none) (by decide) rfl ?_
  intro p e s m args below meth c s₁ B hml hv
  obtain ⟨rfl, hsz, hP, hK, hD0, hE⟩ := hv
  have hx := B.exec
  have hb := B.bytes
  have hr := B.returns
  have hts := atoms_spec (ws := Cond.code m_Ed_keepFirstAndOneMore b_Ed_keepFirstAndOneMore 3 none :: gw) B.pre
  have hown : s.vm.findClass R_Ed = some m.cls := findClass_of_methodNamed B.named
  have hlocks := B.notSynchronized
  subst hsz
  have hD := hD0.self (sz := s.heap.size)
  generalize hAe : va_A [(x, .inr (1, [.ref dg, .int (iI (((dl X : Nat) : Int))), .int (iI (pt)), .int (iI (zl)), .ref q])), (dg, .inl (cB, 1200, .inl g))] s.heap.size = A at hD hE ⊢
  have hA : ∀ q : Nat, s.heap.size ≤ q → A q := fun q h => by rw [← hAe]; exact Or.inr h
  have hS : va_S A s.heap s.heap [] := va_S.rf
  have hl := lv_entry ([.ref x, .int (iI ((n : Int)))]) (n := 3) (Nat.le_of_ble_eq_true rfl)
  rw [lg_entry_eq]
  generalize (lg_sl ([.ref x, .int (iI ((n : Int)))]) ++ List.replicate (3 - (lg_sl ([.ref x, .int (iI ((n : Int)))])).length) Slot.unset).toArray = ls at hl ⊢
  have hl : lv_has ls 3 [(0, .ref x), (1, .int (iI ((n : Int))))] := hl
  have hd12 := hn.1
  have L4 : ∀ (n9 : Nat) (j : Nat) (zj : Int) (ls : Array Slot) (H : Heap) (locs : List Loc), j = n9 → (zj = (j : Int) - 1) → (j ≤ n) → (X / 10 ^ (dl X - n) + 1 = (X / 10 ^ (dl X - j) + 1) * 10 ^ (n - j)) → lv_has ls 3 [(0, .ref x), (2, .int (iI (zj)))] → va_P D ecl [(x, .inr (1, [.ref dg, .int (iI (((dl X : Nat) : Int))), .int (iI (pt)), .int (iI (zl)), .ref q])), (dg, .inl (cB, 1200, .inl g))] H → va_D A [(x, .inr (1, [.ref dg, .int (iI (((dl X : Nat) : Int))), .int (iI (pt)), .int (iI (zl)), .ref q])), (dg, .inl (cB, 1200, .inl g))] → va_S A s.heap H locs → W p l e (headSpec (Cond.code m_Ed_keepFirstAndOneMore b_Ed_keepFirstAndOneMore 3 none :: gw) (rm_ 0 0)).room s m ([.ref x, .int (iI ((n : Int)))] : List Value).toArray below meth c H locs 0 0 (MQ below (va_Qv (fun u => ∃ g' : Nat → Int32, nm_ok g' (rz (X / 10 ^ (dl X - n) + 1)) ∧ u = [(x, .inr (1, [.ref dg, .int (iI (((dl (rz (X / 10 ^ (dl X - n) + 1)) : Nat) : Int))), .int (iI (if (X / 10 ^ (dl X - n) + 1) = 10 ^ n then pt + 1 else pt)), .int (iI (0)), .ref q])), (dg, .inl (cB, 1200, .inl g'))]) (c_B D ecl A) A) ([.ref x, .int (iI ((n : Int)))] : List Value).toArray s 0 0 A) (F0 m 4 ls []) := by
    intro n9
    induction n9 using Nat.strongRecOn with
    | ind n9 ih =>
    intro j zj ls H locs hn9 hj hjn hom hl hP hD hS
    refine lv_iload_n hx hb d_Ed_keepFirstAndOneMore_4 rfl (lv_at hl 1 rfl) ?_
    refine ed_if_lt (tgt := 25) hx hb d_Ed_keepFirstAndOneMore_5 rfl (by omega) (fun h_1 => ?_) (fun h_1 => ?_)
    · skip
      refine ed_pc (pc' := 25) rfl ?_
      refine lv_iload_n hx hb d_Ed_keepFirstAndOneMore_25 rfl (lv_at hl 1 rfl) ?_
      refine ed_if_ge (tgt := 54) hx hb d_Ed_keepFirstAndOneMore_26 rfl (by omega) (fun h_2 => ?_) (fun h_2 => ?_)
      · skip
        refine ed_pc (pc' := 54) rfl ?_
        obtain ⟨d, hd0⟩ : ∃ d : Nat, d = X / 10 ^ (dl X - j) % 10 := ⟨_, rfl⟩
        have hd9 : d < 10 := by rw [hd0]; exact dg_lt _ _
        refine lv_aload_n hx hb d_Ed_keepFirstAndOneMore_54 rfl (lv_at hl 0 rfl) ?_
        refine va_get (D := D) (ci := 1) (v := .ref dg) (C := R_Ed) (T := T_Ed) (N := 5) hx hb hts (fun w h => List.mem_cons_of_mem _ (in_Ed w h)) hown hK hP 0 rfl rfl 0 (by decide) (hts _ (List.mem_cons_of_mem _ tw_40)) (fun _ h9 => h9) rfl d_Ed_keepFirstAndOneMore_55 ?_
        refine lv_iload_n hx hb d_Ed_keepFirstAndOneMore_58 rfl (lv_at hl 1 rfl) ?_
        refine ed_pc (pc' := 59) rfl ?_
        refine lv_dup2_11 hx hb d_Ed_keepFirstAndOneMore_59 rfl rfl ?_
        refine ed_bald (y := (d : Int)) hx hb hK hP 1 0 rfl rfl (j - 1) (by omega) (by omega) (by decide) (by rw [hd0, hn.2.2 (j - 1) (by omega), show dl X - 1 - (j - 1) = dl X - j by omega]) d_Ed_keepFirstAndOneMore_60 ?_
        refine lv_iconst (v := iI 1) hx hb d_Ed_keepFirstAndOneMore_61 rfl ?_
        refine ed_iadd hx hb d_Ed_keepFirstAndOneMore_62 ?_
        refine ed_i2b hx hb d_Ed_keepFirstAndOneMore_63 (by omega) ?_
        refine ed_tz (y := ((d + 1 : Nat) : Int)) (by omega) ?_
        refine ed_bast hx hb hK hP hD hS 1 0 rfl rfl (j - 1) (by omega) (by omega) (by decide) (by omega) d_Ed_keepFirstAndOneMore_64 (fun H locs hP hD hS => ?_)
        have hP : va_P D ecl [(x, .inr (1, [.ref dg, .int (iI (((dl X : Nat) : Int))), .int (iI (pt)), .int (iI (zl)), .ref q])), (dg, .inl (cB, 1200, .inl (upd g (j - 1) ((iI (((d + 1 : Nat) : Int)))))))] H := hP
        have hD : va_D A [(x, .inr (1, [.ref dg, .int (iI (((dl X : Nat) : Int))), .int (iI (pt)), .int (iI (zl)), .ref q])), (dg, .inl (cB, 1200, .inl (upd g (j - 1) ((iI (((d + 1 : Nat) : Int)))))))] := hD
        refine lv_aload_n hx hb d_Ed_keepFirstAndOneMore_65 rfl (lv_at hl 0 rfl) ?_
        refine lv_iload_n hx hb d_Ed_keepFirstAndOneMore_66 rfl (lv_at hl 1 rfl) ?_
        refine ed_pc (pc' := 67) rfl ?_
        refine lv_iconst (v := iI 1) hx hb d_Ed_keepFirstAndOneMore_67 rfl ?_
        refine ed_iadd hx hb d_Ed_keepFirstAndOneMore_68 ?_
        refine va_put (D := D) (ci := 1) (v := .int (iI ((zj) + (1)))) (ty := .int) (C := R_Ed) (T := T_Ed) (N := 5) hx hb hts (fun w h => List.mem_cons_of_mem _ (in_Ed w h)) y_Ed t_Ed n_Ed hown hK hP hD hS 0 rfl rfl 1 (by decide) (hts _ (List.mem_cons_of_mem _ tw_41)) (fun _ h9 => h9) rfl (by decide +kernel) rfl rfl (Nat.le_of_ble_eq_true rfl) d_Ed_keepFirstAndOneMore_69 (fun H locs hP hD hS => ?_)
        have hP : va_P D ecl [(x, .inr (1, [.ref dg, .int (iI ((zj) + (1))), .int (iI (pt)), .int (iI (zl)), .ref q])), (dg, .inl (cB, 1200, .inl (upd g (j - 1) ((iI (((d + 1 : Nat) : Int)))))))] H := hP
        have hD : va_D A [(x, .inr (1, [.ref dg, .int (iI ((zj) + (1))), .int (iI (pt)), .int (iI (zl)), .ref q])), (dg, .inl (cB, 1200, .inl (upd g (j - 1) ((iI (((d + 1 : Nat) : Int)))))))] := hD
        refine lv_aload_n hx hb d_Ed_keepFirstAndOneMore_72 rfl (lv_at hl 0 rfl) ?_
        refine lv_iconst (v := iI 0) hx hb d_Ed_keepFirstAndOneMore_73 rfl ?_
        refine va_put (D := D) (ci := 1) (v := .int (iI (0))) (ty := .boolean) (C := R_Ed) (T := T_Ed) (N := 5) hx hb hts (fun w h => List.mem_cons_of_mem _ (in_Ed w h)) y_Ed t_Ed n_Ed hown hK hP hD hS 0 rfl rfl 3 (by decide) (hts _ (List.mem_cons_of_mem _ tw_43)) (fun _ h9 => h9) rfl (by decide +kernel) (by decide +kernel) (by decide +kernel) (Nat.le_of_ble_eq_true rfl) d_Ed_keepFirstAndOneMore_74 (fun H locs hP hD hS => ?_)
        have hP : va_P D ecl [(x, .inr (1, [.ref dg, .int (iI ((zj) + (1))), .int (iI (pt)), .int (iI (0)), .ref q])), (dg, .inl (cB, 1200, .inl (upd g (j - 1) ((iI (((d + 1 : Nat) : Int)))))))] H := hP
        have hD : va_D A [(x, .inr (1, [.ref dg, .int (iI ((zj) + (1))), .int (iI (pt)), .int (iI (0)), .ref q])), (dg, .inl (cB, 1200, .inl (upd g (j - 1) ((iI (((d + 1 : Nat) : Int)))))))] := hD
        obtain ⟨o1, o2, o3, o4⟩ := om_b hn (show 0 < j by omega) (show j ≤ dl X by omega) hjn hd0 (by omega) hom
        exact W.vret hx hb hr (fun t9 ht9 hW9 => ⟨⟨[(x, .inr (1, [.ref dg, .int (iI ((zj) + (1))), .int (iI (pt)), .int (iI (0)), .ref q])), (dg, .inl (cB, 1200, .inl (upd g (j - 1) ((iI (((d + 1 : Nat) : Int)))))))], rfl, ⟨upd g (j - 1) (iI ((d + 1 : Nat) : Int)), by rw [o1]; exact o4, by rw [o1, o2, if_neg o3, show (zj) + (1) = ((j : Nat) : Int) by omega]⟩, by rw [ht9]; exact hP, hD⟩, hS.F ht9⟩) hS.2.2 d_Ed_keepFirstAndOneMore_77
      · skip
        refine ed_pc (pc' := 29) rfl ?_
        refine lv_aload_n hx hb d_Ed_keepFirstAndOneMore_29 rfl (lv_at hl 0 rfl) ?_
        refine va_get (D := D) (ci := 1) (v := .ref dg) (C := R_Ed) (T := T_Ed) (N := 5) hx hb hts (fun w h => List.mem_cons_of_mem _ (in_Ed w h)) hown hK hP 0 rfl rfl 0 (by decide) (hts _ (List.mem_cons_of_mem _ tw_40)) (fun _ h9 => h9) rfl d_Ed_keepFirstAndOneMore_30 ?_
        refine lv_iconst (v := iI 0) hx hb d_Ed_keepFirstAndOneMore_33 rfl ?_
        refine ed_pc (pc' := 34) rfl ?_
        refine lv_iconst (v := iI 1) hx hb d_Ed_keepFirstAndOneMore_34 rfl ?_
        refine ed_bast hx hb hK hP hD hS 1 0 rfl rfl (0) (by omega) (by omega) (by decide) (by omega) d_Ed_keepFirstAndOneMore_35 (fun H locs hP hD hS => ?_)
        have hP : va_P D ecl [(x, .inr (1, [.ref dg, .int (iI (((dl X : Nat) : Int))), .int (iI (pt)), .int (iI (zl)), .ref q])), (dg, .inl (cB, 1200, .inl (upd g (0) ((iI (1))))))] H := hP
        have hD : va_D A [(x, .inr (1, [.ref dg, .int (iI (((dl X : Nat) : Int))), .int (iI (pt)), .int (iI (zl)), .ref q])), (dg, .inl (cB, 1200, .inl (upd g (0) ((iI (1))))))] := hD
        refine lv_aload_n hx hb d_Ed_keepFirstAndOneMore_36 rfl (lv_at hl 0 rfl) ?_
        refine lv_iconst (v := iI 1) hx hb d_Ed_keepFirstAndOneMore_37 rfl ?_
        refine va_put (D := D) (ci := 1) (v := .int (iI (1))) (ty := .int) (C := R_Ed) (T := T_Ed) (N := 5) hx hb hts (fun w h => List.mem_cons_of_mem _ (in_Ed w h)) y_Ed t_Ed n_Ed hown hK hP hD hS 0 rfl rfl 1 (by decide) (hts _ (List.mem_cons_of_mem _ tw_41)) (fun _ h9 => h9) rfl (by decide +kernel) rfl rfl (Nat.le_of_ble_eq_true rfl) d_Ed_keepFirstAndOneMore_38 (fun H locs hP hD hS => ?_)
        have hP : va_P D ecl [(x, .inr (1, [.ref dg, .int (iI (1)), .int (iI (pt)), .int (iI (zl)), .ref q])), (dg, .inl (cB, 1200, .inl (upd g (0) ((iI (1))))))] H := hP
        have hD : va_D A [(x, .inr (1, [.ref dg, .int (iI (1)), .int (iI (pt)), .int (iI (zl)), .ref q])), (dg, .inl (cB, 1200, .inl (upd g (0) ((iI (1))))))] := hD
        refine lv_aload_n hx hb d_Ed_keepFirstAndOneMore_41 rfl (lv_at hl 0 rfl) ?_
        refine lv_dup hx hb d_Ed_keepFirstAndOneMore_42 rfl ?_
        refine va_get (D := D) (ci := 1) (v := .int (iI (pt))) (C := R_Ed) (T := T_Ed) (N := 5) hx hb hts (fun w h => List.mem_cons_of_mem _ (in_Ed w h)) hown hK hP 0 rfl rfl 2 (by decide) (hts _ (List.mem_cons_of_mem _ tw_42)) (fun _ h9 => h9) rfl d_Ed_keepFirstAndOneMore_43 ?_
        refine ed_pc (pc' := 46) rfl ?_
        refine lv_iconst (v := iI 1) hx hb d_Ed_keepFirstAndOneMore_46 rfl ?_
        refine ed_iadd hx hb d_Ed_keepFirstAndOneMore_47 ?_
        refine va_put (D := D) (ci := 1) (v := .int (iI ((pt) + (1)))) (ty := .int) (C := R_Ed) (T := T_Ed) (N := 5) hx hb hts (fun w h => List.mem_cons_of_mem _ (in_Ed w h)) y_Ed t_Ed n_Ed hown hK hP hD hS 0 rfl rfl 2 (by decide) (hts _ (List.mem_cons_of_mem _ tw_42)) (fun _ h9 => h9) rfl (by decide +kernel) rfl rfl (Nat.le_of_ble_eq_true rfl) d_Ed_keepFirstAndOneMore_48 (fun H locs hP hD hS => ?_)
        have hP : va_P D ecl [(x, .inr (1, [.ref dg, .int (iI (1)), .int (iI ((pt) + (1))), .int (iI (zl)), .ref q])), (dg, .inl (cB, 1200, .inl (upd g (0) ((iI (1))))))] H := hP
        have hD : va_D A [(x, .inr (1, [.ref dg, .int (iI (1)), .int (iI ((pt) + (1))), .int (iI (zl)), .ref q])), (dg, .inl (cB, 1200, .inl (upd g (0) ((iI (1))))))] := hD
        refine lv_goto (tgt := 72) hx hb d_Ed_keepFirstAndOneMore_51 rfl ?_
        refine lv_aload_n hx hb d_Ed_keepFirstAndOneMore_72 rfl (lv_at hl 0 rfl) ?_
        refine lv_iconst (v := iI 0) hx hb d_Ed_keepFirstAndOneMore_73 rfl ?_
        refine va_put (D := D) (ci := 1) (v := .int (iI (0))) (ty := .boolean) (C := R_Ed) (T := T_Ed) (N := 5) hx hb hts (fun w h => List.mem_cons_of_mem _ (in_Ed w h)) y_Ed t_Ed n_Ed hown hK hP hD hS 0 rfl rfl 3 (by decide) (hts _ (List.mem_cons_of_mem _ tw_43)) (fun _ h9 => h9) rfl (by decide +kernel) (by decide +kernel) (by decide +kernel) (Nat.le_of_ble_eq_true rfl) d_Ed_keepFirstAndOneMore_74 (fun H locs hP hD hS => ?_)
        have hP : va_P D ecl [(x, .inr (1, [.ref dg, .int (iI (1)), .int (iI ((pt) + (1))), .int (iI (0)), .ref q])), (dg, .inl (cB, 1200, .inl (upd g (0) ((iI (1))))))] H := hP
        have hD : va_D A [(x, .inr (1, [.ref dg, .int (iI (1)), .int (iI ((pt) + (1))), .int (iI (0)), .ref q])), (dg, .inl (cB, 1200, .inl (upd g (0) ((iI (1))))))] := hD
        have hj0 : j = 0 := by omega
        rw [hj0] at hom
        have hY := om_a hom
        exact W.vret hx hb hr (fun t9 ht9 hW9 => ⟨⟨[(x, .inr (1, [.ref dg, .int (iI (1)), .int (iI ((pt) + (1))), .int (iI (0)), .ref q])), (dg, .inl (cB, 1200, .inl (upd g (0) ((iI (1))))))], rfl, ⟨upd g 0 (iI 1), by rw [hY, rz_p10]; exact (nm_1 g).1, by rw [hY, rz_p10, (nm_1 g).2, if_pos rfl]; rfl⟩, by rw [ht9]; exact hP, hD⟩, hS.F ht9⟩) hS.2.2 d_Ed_keepFirstAndOneMore_77
    · skip
      refine ed_pc (pc' := 8) rfl ?_
      obtain ⟨d, hd0⟩ : ∃ d : Nat, d = X / 10 ^ (dl X - j) % 10 := ⟨_, rfl⟩
      have hd9 : d < 10 := by rw [hd0]; exact dg_lt _ _
      refine lv_aload_n hx hb d_Ed_keepFirstAndOneMore_8 rfl (lv_at hl 0 rfl) ?_
      refine va_get (D := D) (ci := 1) (v := .ref dg) (C := R_Ed) (T := T_Ed) (N := 5) hx hb hts (fun w h => List.mem_cons_of_mem _ (in_Ed w h)) hown hK hP 0 rfl rfl 0 (by decide) (hts _ (List.mem_cons_of_mem _ tw_40)) (fun _ h9 => h9) rfl d_Ed_keepFirstAndOneMore_9 ?_
      refine lv_iload_n hx hb d_Ed_keepFirstAndOneMore_12 rfl (lv_at hl 1 rfl) ?_
      refine ed_bald (y := (d : Int)) hx hb hK hP 1 0 rfl rfl (j - 1) (by omega) (by omega) (by decide) (by rw [hd0, hn.2.2 (j - 1) (by omega), show dl X - 1 - (j - 1) = dl X - j by omega]) d_Ed_keepFirstAndOneMore_13 ?_
      refine lv_bipush (v := iI 9) hx hb d_Ed_keepFirstAndOneMore_14 (by decide +kernel) ?_
      refine ed_pc (pc' := 16) rfl ?_
      refine ed_icmp_ne (tgt := 25) hx hb d_Ed_keepFirstAndOneMore_16 rfl (by omega) (by omega) (fun h_3 => ?_) (fun h_3 => ?_)
      · skip
        refine ed_pc (pc' := 25) rfl ?_
        refine lv_iload_n hx hb d_Ed_keepFirstAndOneMore_25 rfl (lv_at hl 1 rfl) ?_
        refine ed_if_ge (tgt := 54) hx hb d_Ed_keepFirstAndOneMore_26 rfl (by omega) (fun h_4 => ?_) (fun h_4 => ?_)
        · skip
          refine ed_pc (pc' := 54) rfl ?_
          obtain ⟨d, hd0⟩ : ∃ d : Nat, d = X / 10 ^ (dl X - j) % 10 := ⟨_, rfl⟩
          have hd9 : d < 10 := by rw [hd0]; exact dg_lt _ _
          refine lv_aload_n hx hb d_Ed_keepFirstAndOneMore_54 rfl (lv_at hl 0 rfl) ?_
          refine va_get (D := D) (ci := 1) (v := .ref dg) (C := R_Ed) (T := T_Ed) (N := 5) hx hb hts (fun w h => List.mem_cons_of_mem _ (in_Ed w h)) hown hK hP 0 rfl rfl 0 (by decide) (hts _ (List.mem_cons_of_mem _ tw_40)) (fun _ h9 => h9) rfl d_Ed_keepFirstAndOneMore_55 ?_
          refine lv_iload_n hx hb d_Ed_keepFirstAndOneMore_58 rfl (lv_at hl 1 rfl) ?_
          refine lv_dup2_11 hx hb d_Ed_keepFirstAndOneMore_59 rfl rfl ?_
          refine ed_bald (y := (d : Int)) hx hb hK hP 1 0 rfl rfl (j - 1) (by omega) (by omega) (by decide) (by rw [hd0, hn.2.2 (j - 1) (by omega), show dl X - 1 - (j - 1) = dl X - j by omega]) d_Ed_keepFirstAndOneMore_60 ?_
          refine ed_pc (pc' := 61) rfl ?_
          refine lv_iconst (v := iI 1) hx hb d_Ed_keepFirstAndOneMore_61 rfl ?_
          refine ed_iadd hx hb d_Ed_keepFirstAndOneMore_62 ?_
          refine ed_i2b hx hb d_Ed_keepFirstAndOneMore_63 (by omega) ?_
          refine ed_tz (y := ((d + 1 : Nat) : Int)) (by omega) ?_
          refine ed_bast hx hb hK hP hD hS 1 0 rfl rfl (j - 1) (by omega) (by omega) (by decide) (by omega) d_Ed_keepFirstAndOneMore_64 (fun H locs hP hD hS => ?_)
          have hP : va_P D ecl [(x, .inr (1, [.ref dg, .int (iI (((dl X : Nat) : Int))), .int (iI (pt)), .int (iI (zl)), .ref q])), (dg, .inl (cB, 1200, .inl (upd g (j - 1) ((iI (((d + 1 : Nat) : Int)))))))] H := hP
          have hD : va_D A [(x, .inr (1, [.ref dg, .int (iI (((dl X : Nat) : Int))), .int (iI (pt)), .int (iI (zl)), .ref q])), (dg, .inl (cB, 1200, .inl (upd g (j - 1) ((iI (((d + 1 : Nat) : Int)))))))] := hD
          refine lv_aload_n hx hb d_Ed_keepFirstAndOneMore_65 rfl (lv_at hl 0 rfl) ?_
          refine lv_iload_n hx hb d_Ed_keepFirstAndOneMore_66 rfl (lv_at hl 1 rfl) ?_
          refine lv_iconst (v := iI 1) hx hb d_Ed_keepFirstAndOneMore_67 rfl ?_
          refine ed_iadd hx hb d_Ed_keepFirstAndOneMore_68 ?_
          refine ed_pc (pc' := 69) rfl ?_
          refine va_put (D := D) (ci := 1) (v := .int (iI ((zj) + (1)))) (ty := .int) (C := R_Ed) (T := T_Ed) (N := 5) hx hb hts (fun w h => List.mem_cons_of_mem _ (in_Ed w h)) y_Ed t_Ed n_Ed hown hK hP hD hS 0 rfl rfl 1 (by decide) (hts _ (List.mem_cons_of_mem _ tw_41)) (fun _ h9 => h9) rfl (by decide +kernel) rfl rfl (Nat.le_of_ble_eq_true rfl) d_Ed_keepFirstAndOneMore_69 (fun H locs hP hD hS => ?_)
          have hP : va_P D ecl [(x, .inr (1, [.ref dg, .int (iI ((zj) + (1))), .int (iI (pt)), .int (iI (zl)), .ref q])), (dg, .inl (cB, 1200, .inl (upd g (j - 1) ((iI (((d + 1 : Nat) : Int)))))))] H := hP
          have hD : va_D A [(x, .inr (1, [.ref dg, .int (iI ((zj) + (1))), .int (iI (pt)), .int (iI (zl)), .ref q])), (dg, .inl (cB, 1200, .inl (upd g (j - 1) ((iI (((d + 1 : Nat) : Int)))))))] := hD
          refine lv_aload_n hx hb d_Ed_keepFirstAndOneMore_72 rfl (lv_at hl 0 rfl) ?_
          refine lv_iconst (v := iI 0) hx hb d_Ed_keepFirstAndOneMore_73 rfl ?_
          refine va_put (D := D) (ci := 1) (v := .int (iI (0))) (ty := .boolean) (C := R_Ed) (T := T_Ed) (N := 5) hx hb hts (fun w h => List.mem_cons_of_mem _ (in_Ed w h)) y_Ed t_Ed n_Ed hown hK hP hD hS 0 rfl rfl 3 (by decide) (hts _ (List.mem_cons_of_mem _ tw_43)) (fun _ h9 => h9) rfl (by decide +kernel) (by decide +kernel) (by decide +kernel) (Nat.le_of_ble_eq_true rfl) d_Ed_keepFirstAndOneMore_74 (fun H locs hP hD hS => ?_)
          have hP : va_P D ecl [(x, .inr (1, [.ref dg, .int (iI ((zj) + (1))), .int (iI (pt)), .int (iI (0)), .ref q])), (dg, .inl (cB, 1200, .inl (upd g (j - 1) ((iI (((d + 1 : Nat) : Int)))))))] H := hP
          have hD : va_D A [(x, .inr (1, [.ref dg, .int (iI ((zj) + (1))), .int (iI (pt)), .int (iI (0)), .ref q])), (dg, .inl (cB, 1200, .inl (upd g (j - 1) ((iI (((d + 1 : Nat) : Int)))))))] := hD
          obtain ⟨o1, o2, o3, o4⟩ := om_b hn (show 0 < j by omega) (show j ≤ dl X by omega) hjn hd0 (by omega) hom
          exact W.vret hx hb hr (fun t9 ht9 hW9 => ⟨⟨[(x, .inr (1, [.ref dg, .int (iI ((zj) + (1))), .int (iI (pt)), .int (iI (0)), .ref q])), (dg, .inl (cB, 1200, .inl (upd g (j - 1) ((iI (((d + 1 : Nat) : Int)))))))], rfl, ⟨upd g (j - 1) (iI ((d + 1 : Nat) : Int)), by rw [o1]; exact o4, by rw [o1, o2, if_neg o3, show (zj) + (1) = ((j : Nat) : Int) by omega]⟩, by rw [ht9]; exact hP, hD⟩, hS.F ht9⟩) hS.2.2 d_Ed_keepFirstAndOneMore_77
        · skip
          refine ed_pc (pc' := 29) rfl ?_
          refine lv_aload_n hx hb d_Ed_keepFirstAndOneMore_29 rfl (lv_at hl 0 rfl) ?_
          refine va_get (D := D) (ci := 1) (v := .ref dg) (C := R_Ed) (T := T_Ed) (N := 5) hx hb hts (fun w h => List.mem_cons_of_mem _ (in_Ed w h)) hown hK hP 0 rfl rfl 0 (by decide) (hts _ (List.mem_cons_of_mem _ tw_40)) (fun _ h9 => h9) rfl d_Ed_keepFirstAndOneMore_30 ?_
          refine lv_iconst (v := iI 0) hx hb d_Ed_keepFirstAndOneMore_33 rfl ?_
          refine lv_iconst (v := iI 1) hx hb d_Ed_keepFirstAndOneMore_34 rfl ?_
          refine ed_bast hx hb hK hP hD hS 1 0 rfl rfl (0) (by omega) (by omega) (by decide) (by omega) d_Ed_keepFirstAndOneMore_35 (fun H locs hP hD hS => ?_)
          have hP : va_P D ecl [(x, .inr (1, [.ref dg, .int (iI (((dl X : Nat) : Int))), .int (iI (pt)), .int (iI (zl)), .ref q])), (dg, .inl (cB, 1200, .inl (upd g (0) ((iI (1))))))] H := hP
          have hD : va_D A [(x, .inr (1, [.ref dg, .int (iI (((dl X : Nat) : Int))), .int (iI (pt)), .int (iI (zl)), .ref q])), (dg, .inl (cB, 1200, .inl (upd g (0) ((iI (1))))))] := hD
          refine ed_pc (pc' := 36) rfl ?_
          refine lv_aload_n hx hb d_Ed_keepFirstAndOneMore_36 rfl (lv_at hl 0 rfl) ?_
          refine lv_iconst (v := iI 1) hx hb d_Ed_keepFirstAndOneMore_37 rfl ?_
          refine va_put (D := D) (ci := 1) (v := .int (iI (1))) (ty := .int) (C := R_Ed) (T := T_Ed) (N := 5) hx hb hts (fun w h => List.mem_cons_of_mem _ (in_Ed w h)) y_Ed t_Ed n_Ed hown hK hP hD hS 0 rfl rfl 1 (by decide) (hts _ (List.mem_cons_of_mem _ tw_41)) (fun _ h9 => h9) rfl (by decide +kernel) rfl rfl (Nat.le_of_ble_eq_true rfl) d_Ed_keepFirstAndOneMore_38 (fun H locs hP hD hS => ?_)
          have hP : va_P D ecl [(x, .inr (1, [.ref dg, .int (iI (1)), .int (iI (pt)), .int (iI (zl)), .ref q])), (dg, .inl (cB, 1200, .inl (upd g (0) ((iI (1))))))] H := hP
          have hD : va_D A [(x, .inr (1, [.ref dg, .int (iI (1)), .int (iI (pt)), .int (iI (zl)), .ref q])), (dg, .inl (cB, 1200, .inl (upd g (0) ((iI (1))))))] := hD
          refine lv_aload_n hx hb d_Ed_keepFirstAndOneMore_41 rfl (lv_at hl 0 rfl) ?_
          refine lv_dup hx hb d_Ed_keepFirstAndOneMore_42 rfl ?_
          refine va_get (D := D) (ci := 1) (v := .int (iI (pt))) (C := R_Ed) (T := T_Ed) (N := 5) hx hb hts (fun w h => List.mem_cons_of_mem _ (in_Ed w h)) hown hK hP 0 rfl rfl 2 (by decide) (hts _ (List.mem_cons_of_mem _ tw_42)) (fun _ h9 => h9) rfl d_Ed_keepFirstAndOneMore_43 ?_
          refine lv_iconst (v := iI 1) hx hb d_Ed_keepFirstAndOneMore_46 rfl ?_
          refine ed_iadd hx hb d_Ed_keepFirstAndOneMore_47 ?_
          refine ed_pc (pc' := 48) rfl ?_
          refine va_put (D := D) (ci := 1) (v := .int (iI ((pt) + (1)))) (ty := .int) (C := R_Ed) (T := T_Ed) (N := 5) hx hb hts (fun w h => List.mem_cons_of_mem _ (in_Ed w h)) y_Ed t_Ed n_Ed hown hK hP hD hS 0 rfl rfl 2 (by decide) (hts _ (List.mem_cons_of_mem _ tw_42)) (fun _ h9 => h9) rfl (by decide +kernel) rfl rfl (Nat.le_of_ble_eq_true rfl) d_Ed_keepFirstAndOneMore_48 (fun H locs hP hD hS => ?_)
          have hP : va_P D ecl [(x, .inr (1, [.ref dg, .int (iI (1)), .int (iI ((pt) + (1))), .int (iI (zl)), .ref q])), (dg, .inl (cB, 1200, .inl (upd g (0) ((iI (1))))))] H := hP
          have hD : va_D A [(x, .inr (1, [.ref dg, .int (iI (1)), .int (iI ((pt) + (1))), .int (iI (zl)), .ref q])), (dg, .inl (cB, 1200, .inl (upd g (0) ((iI (1))))))] := hD
          refine lv_goto (tgt := 72) hx hb d_Ed_keepFirstAndOneMore_51 rfl ?_
          refine lv_aload_n hx hb d_Ed_keepFirstAndOneMore_72 rfl (lv_at hl 0 rfl) ?_
          refine lv_iconst (v := iI 0) hx hb d_Ed_keepFirstAndOneMore_73 rfl ?_
          refine va_put (D := D) (ci := 1) (v := .int (iI (0))) (ty := .boolean) (C := R_Ed) (T := T_Ed) (N := 5) hx hb hts (fun w h => List.mem_cons_of_mem _ (in_Ed w h)) y_Ed t_Ed n_Ed hown hK hP hD hS 0 rfl rfl 3 (by decide) (hts _ (List.mem_cons_of_mem _ tw_43)) (fun _ h9 => h9) rfl (by decide +kernel) (by decide +kernel) (by decide +kernel) (Nat.le_of_ble_eq_true rfl) d_Ed_keepFirstAndOneMore_74 (fun H locs hP hD hS => ?_)
          have hP : va_P D ecl [(x, .inr (1, [.ref dg, .int (iI (1)), .int (iI ((pt) + (1))), .int (iI (0)), .ref q])), (dg, .inl (cB, 1200, .inl (upd g (0) ((iI (1))))))] H := hP
          have hD : va_D A [(x, .inr (1, [.ref dg, .int (iI (1)), .int (iI ((pt) + (1))), .int (iI (0)), .ref q])), (dg, .inl (cB, 1200, .inl (upd g (0) ((iI (1))))))] := hD
          have hj0 : j = 0 := by omega
          rw [hj0] at hom
          have hY := om_a hom
          exact W.vret hx hb hr (fun t9 ht9 hW9 => ⟨⟨[(x, .inr (1, [.ref dg, .int (iI (1)), .int (iI ((pt) + (1))), .int (iI (0)), .ref q])), (dg, .inl (cB, 1200, .inl (upd g (0) ((iI (1))))))], rfl, ⟨upd g 0 (iI 1), by rw [hY, rz_p10]; exact (nm_1 g).1, by rw [hY, rz_p10, (nm_1 g).2, if_pos rfl]; rfl⟩, by rw [ht9]; exact hP, hD⟩, hS.F ht9⟩) hS.2.2 d_Ed_keepFirstAndOneMore_77
      · skip
        refine ed_pc (pc' := 19) rfl ?_
        refine lv_iinc (k := 1) (v := iI (zj + (-1))) hx hb d_Ed_keepFirstAndOneMore_19 hl rfl (iI_add _ _) (by decide) rfl (fun ls hl => ?_)
        have hl : lv_has ls 3 [(2, .int (iI (zj + (-1)))), (0, .ref x)] := hl
        refine lv_goto (tgt := 4) hx hb d_Ed_keepFirstAndOneMore_22 rfl ?_
        have hl := lv_sub hl [1, 0] rfl
        exact ih _ (by omega) (j - 1) _ ls H locs rfl (by omega) (by omega) (om_s (by omega) (by omega) (by omega) (by rw [← hd0]; omega) hom) hl hP hD hS
  refine lv_iload_n hx hb d_Ed_keepFirstAndOneMore_0 rfl (lv_at hl 1 rfl) ?_
  refine lv_iconst (v := iI 1) hx hb d_Ed_keepFirstAndOneMore_1 rfl ?_
  refine ed_isub hx hb d_Ed_keepFirstAndOneMore_2 ?_
  refine lv_istore_n hx hb d_Ed_keepFirstAndOneMore_3 rfl hl (by decide) rfl (fun ls hl => ?_)
  have hl : lv_has ls 3 [(2, .int (iI (((n : Int)) - (1)))), (0, .ref x), (1, .int (iI ((n : Int))))] := hl
  have hl := lv_sub hl [1, 0] rfl
  exact L4 _ (n) _ ls s.heap [] rfl (rfl) (Nat.le_refl _) (by rw [Nat.sub_self, Nat.pow_zero, Nat.mul_one]) hl hP hD hS
end
section
/-! methods that throw: what is thrown, the cells as they were -/
abbrev xNm : List String := ["java/lang/RuntimeException", "java/lang/Exception"]
abbrev rmx_ (k w : Nat) : Room := { frames := k, cells := 1, slots := 6, locals := w }
theorem gw_of {ws : List Cond} (h : ∀ w ∈ ws.filter goodWord, w ∈ lw_tbl) : ∀ w ∈ ws.filter goodWord, w ∈ gw := fun w hw => List.mem_filter.mpr ⟨h w hw, (List.mem_filter.mp hw).2⟩
theorem ta_IA : ∀ w ∈ (vx_at0 "ExactDigits" 60 xIA xNm).filter goodWord, w ∈ gw := gw_of (by decide +kernel)
theorem ta_AE : ∀ w ∈ (vx_at0 "ExactDigits" 106 xAE xNm).filter goodWord, w ∈ gw := gw_of (by decide +kernel)
abbrev tB (cls : String) : List Cond := [.castable cls cls, .declares ⟨"java/lang/RuntimeException", "<init>", "()V"⟩, .declares ⟨"java/lang/Exception", "<init>", "()V"⟩, .declares ⟨"java/lang/Throwable", "<init>", "()V"⟩]
theorem tb_IA : ∀ w ∈ (vx_at0 "ExactDigits" 60 xIA xNm).filter (fun w => !goodWord w), w ∈ tB xIA := by decide +kernel
theorem tb_AE : ∀ w ∈ (vx_at0 "ExactDigits" 106 xAE xNm).filter (fun w => !goodWord w), w ∈ tB xAE := by decide +kernel
theorem tg_IA : ∀ w ∈ Cond.classLink "ExactDigits" 58 xIA :: Cond.initialized xIA :: vx_at0 "ExactDigits" 60 xIA xNm, vx_ot w = true := by decide +kernel
theorem tg_AE : ∀ w ∈ Cond.classLink "ExactDigits" 104 xAE :: Cond.initialized xAE :: vx_at0 "ExactDigits" 106 xAE xNm, vx_ot w = true := by decide +kernel
theorem eW_IA {args : Array Value} {s : State} (h : eW s) : ∀ w ∈ tB xIA, w.before args s = true :=
  vx_c (va_Nw.use rfl h.1) (vx_c (va_Nw.use rfl h.2.2.1) (vx_c (va_Nw.use rfl h.2.2.2.1) (vx_c (va_Nw.use rfl h.2.2.2.2.1) vx_n)))
theorem eW_AE {args : Array Value} {s : State} (h : eW s) : ∀ w ∈ tB xAE, w.before args s = true :=
  vx_c (va_Nw.use rfl h.2.1) (vx_c (va_Nw.use rfl h.2.2.1) (vx_c (va_Nw.use rfl h.2.2.2.1) (vx_c (va_Nw.use rfl h.2.2.2.2.1) vx_n)))
def c_XC (D : va_G) (cl : List vw_C) (A : Nat → Prop) (ws : va_W) (cls : String) : String → State → State → Prop := vx_X (fun u : va_W => u = ws) (fun E u t => E = cls ∧ c_B D cl A u t) A
def c_T (l : Launch) (y : MethodName) (wd : List Cond) (rm : Room) (Ex : (Nat → Prop) → State → Prop) (D : va_G) (cl : List vw_C) (tys : List (ClassId × FieldType)) (av : List Value) (ws : va_W) (cls : String) : Prop :=
  ∀ sz : Nat, vx_Met l y wd rm (c_P Ex D cl tys av ws sz) (va_Qi (fun (_ : Int32) (_ : va_W) => False) (c_B D cl (va_A ws sz)) (va_A ws sz)) (c_XC D cl (va_A ws sz) ws cls) 1 6 (va_A ws sz)
def c_TL (l : Launch) (y : MethodName) (wd : List Cond) (rm : Room) (Ex : (Nat → Prop) → State → Prop) (D : va_G) (cl : List vw_C) (tys : List (ClassId × FieldType)) (av : List Value) (ws : va_W) (cls : String) : Prop :=
  ∀ sz : Nat, vx_Met l y wd rm (c_P Ex D cl tys av ws sz) (va_Ql (fun (_ : Int64) (_ : va_W) => False) (c_B D cl (va_A ws sz)) (va_A ws sz)) (c_XC D cl (va_A ws sz) ws cls) 1 6 (va_A ws sz)
theorem c_xc {D : va_G} {cl : List vw_C} {A : Nat → Prop} {ws : va_W} {cls : String} {s t : State} {H : Heap} {locs : List Loc} (hP : va_P D cl ws H) (hD : va_D A ws) (hS : va_S A s.heap H locs) (hz : H.size ≤ t.heap.size) (hk : ∀ q : Nat, q < H.size → t.heap[q]? = H[q]?) : c_XC D cl A ws cls cls s t :=
  ⟨ws, rfl, ⟨rfl, hP.kept (fun k q hq => hk _ (vx_lt hP hq)), hD⟩, Nat.le_trans hS.1 hz, fun q h1 h2 => by rw [hk q (Nat.lt_of_lt_of_le h1 hS.1)]; exact hS.2.1 q h1 h2⟩
end
section
set_option maxHeartbeats 4000000 in
set_option maxRecDepth 100000 in
theorem c_Ed_told_no (l : Launch) (hl0 : l.stackTraces = false) (D : va_G) (cB cI cJ : ClassId) (t5 : Nat) (ad : Nat → Nat) (x dg q : Nat) (g : Nat → Int32) (zc pt zl k : Int) (hk : iR k) (hk2 : k < 0 ∨ 2 < k) : c_T l m_Ed_told (Cond.code m_Ed_told b_Ed_told 2 (some .int) :: gw) (rmx_ 6 90) (eX t5 ad) D ecl (tyS cB cI cJ) [.ref x, .int (iI (k))] [(x, .inr (1, [.ref dg, .int (iI (zc)), .int (iI (pt)), .int (iI (zl)), .ref q])), (dg, .inl (cB, 1200, .inl g))] xIA := by
  intro sz0
  refine vx_ofW (cc := b_Ed_told) (maxL := 2) (ret := (some .int)) (by decide) rfl ?_
  intro p e s m args below meth c s₁ B hml htab hv
  obtain ⟨rfl, hsz, hP, hK, hD0, hE⟩ := hv
  have hx := B.exec
  have hb := B.bytes
  have hr := B.returns
  have hts := atoms_spec (ws := Cond.code m_Ed_told b_Ed_told 2 (some .int) :: gw) B.pre
  have hown : s.vm.findClass R_Ed = some m.cls := findClass_of_methodNamed B.named
  have hlocks := B.notSynchronized
  subst hsz
  have hD := hD0.self (sz := s.heap.size)
  generalize hAe : va_A [(x, .inr (1, [.ref dg, .int (iI (zc)), .int (iI (pt)), .int (iI (zl)), .ref q])), (dg, .inl (cB, 1200, .inl g))] s.heap.size = A at hD hE ⊢
  have hA : ∀ q : Nat, s.heap.size ≤ q → A q := fun q h => by rw [← hAe]; exact Or.inr h
  have hS : va_S A s.heap s.heap [] := va_S.rf
  have hl := lv_entry ([.ref x, .int (iI (k))]) (n := 2) (Nat.le_of_ble_eq_true rfl)
  rw [lg_entry_eq]
  generalize (lg_sl ([.ref x, .int (iI (k))]) ++ List.replicate (2 - (lg_sl ([.ref x, .int (iI (k))])).length) Slot.unset).toArray = ls at hl ⊢
  have hl : lv_has ls 2 [(0, .ref x), (1, .int (iI (k)))] := hl
  refine lv_iload_n hx hb d_Ed_told_0 rfl (lv_at hl 1 rfl) ?_
  refine lv_tableOut (tgt := 51) hx hb d_Ed_told_1 (by rw [iI_toInt hk]; omega) rfl ?_
  exact vx_throw0 (own := "ExactDigits") (cls := xIA) (names := xNm) (rest := []) hx hb hl0 hown (by decide +kernel) (by decide +kernel) (hts _ (List.mem_cons_of_mem _ tw_284)) (hts _ (List.mem_cons_of_mem _ tw_15)) (vx_hat (fun w h => hts w (List.mem_cons_of_mem _ (ta_IA w h))) tb_IA (eW_IA hE.2.2.2.2.2.2.2.2.2.2.2)) tg_IA hE.2.2.2.2.2.2.2.2.2.1 hE.2.2.2.2.2.2.2.2.2.2.1 hS (hl.1.trans hml.symm) d_Ed_told_51 d_Ed_told_54 d_Ed_told_55 d_Ed_told_58 (fun x h => (htab x h).elim) (Nat.le_of_ble_eq_true rfl) (Nat.le_of_ble_eq_true rfl) (Nat.le_of_ble_eq_true rfl) (Nat.le_of_ble_eq_true rfl) hlocks (fun t9 hv9 hz9 hk9 => c_xc hP hD hS hz9 hk9) hS.2.2 (Nat.le_of_ble_eq_true rfl) (Nat.le_of_ble_eq_true rfl)
set_option maxHeartbeats 4000000 in
set_option maxRecDepth 100000 in
theorem c_Ed_told (l : Launch) (D : va_G) (cB cI cJ : ClassId) (t5 : Nat) (ad : Nat → Nat) (x dg q : Nat) (g : Nat → Int32) (pt zl k : Int) (X : Nat) (hk3 : k = 0 ∨ k = 1 ∨ k = 2) (hzl : zl = 0 ∨ zl = 1) : c_I l m_Ed_told (Cond.code m_Ed_told b_Ed_told 2 (some .int) :: gw) (rm_ 6 90) (eX t5 ad) D ecl (tyS cB cI cJ) [.ref x, .int (iI (k))] [(x, .inr (1, [.ref dg, .int (iI (((dl X : Nat) : Int))), .int (iI (pt)), .int (iI (zl)), .ref q])), (dg, .inl (cB, 1200, .inl g))] (fun r u => r = iI (if k = 0 then ((dl X : Nat) : Int) else if k = 1 then pt else zl) ∧ u = [(x, .inr (1, [.ref dg, .int (iI (((dl X : Nat) : Int))), .int (iI (pt)), .int (iI (zl)), .ref q])), (dg, .inl (cB, 1200, .inl g))]) 0 0 := by
  intro sz0
  refine Met.ofW (cc := b_Ed_told) (maxL := 2) (ret := (some .int)) (by decide) rfl ?_
  intro p e s m args below meth c s₁ B hml hv
  obtain ⟨rfl, hsz, hP, hK, hD0, hE⟩ := hv
  have hx := B.exec
  have hb := B.bytes
  have hr := B.returns
  have hts := atoms_spec (ws := Cond.code m_Ed_told b_Ed_told 2 (some .int) :: gw) B.pre
  have hown : s.vm.findClass R_Ed = some m.cls := findClass_of_methodNamed B.named
  have hlocks := B.notSynchronized
  subst hsz
  have hD := hD0.self (sz := s.heap.size)
  generalize hAe : va_A [(x, .inr (1, [.ref dg, .int (iI (((dl X : Nat) : Int))), .int (iI (pt)), .int (iI (zl)), .ref q])), (dg, .inl (cB, 1200, .inl g))] s.heap.size = A at hD hE ⊢
  have hA : ∀ q : Nat, s.heap.size ≤ q → A q := fun q h => by rw [← hAe]; exact Or.inr h
  have hS : va_S A s.heap s.heap [] := va_S.rf
  have hl := lv_entry ([.ref x, .int (iI (k))]) (n := 2) (Nat.le_of_ble_eq_true rfl)
  rw [lg_entry_eq]
  generalize (lg_sl ([.ref x, .int (iI (k))]) ++ List.replicate (2 - (lg_sl ([.ref x, .int (iI (k))])).length) Slot.unset).toArray = ls at hl ⊢
  have hl : lv_has ls 2 [(0, .ref x), (1, .int (iI (k)))] := hl
  refine lv_iload_n hx hb d_Ed_told_0 rfl (lv_at hl 1 rfl) ?_
  rcases hk3 with rfl | rfl | rfl
  · skip
    refine lv_tableIn (tgt := 28) hx hb d_Ed_told_1 (by decide +kernel) (by decide +kernel) rfl rfl ?_
    refine lv_aload_n hx hb d_Ed_told_28 rfl (lv_at hl 0 rfl) ?_
    refine va_get (D := D) (ci := 1) (v := .int (iI (((dl X : Nat) : Int)))) (C := R_Ed) (T := T_Ed) (N := 5) hx hb hts (fun w h => List.mem_cons_of_mem _ (in_Ed w h)) hown hK hP 0 rfl rfl 1 (by decide) (hts _ (List.mem_cons_of_mem _ tw_41)) (fun _ h9 => h9) rfl d_Ed_told_29 ?_
    exact W.iret (v := (iI (((dl X : Nat) : Int)))) hx hb hr (fun t9 ht9 hW9 => ⟨⟨(iI (((dl X : Nat) : Int))), [(x, .inr (1, [.ref dg, .int (iI (((dl X : Nat) : Int))), .int (iI (pt)), .int (iI (zl)), .ref q])), (dg, .inl (cB, 1200, .inl g))], rfl, ⟨rfl, rfl⟩, by rw [ht9]; exact hP, hD⟩, hS.F ht9⟩) hS.2.2 d_Ed_told_32
  · skip
    refine lv_tableIn (tgt := 33) hx hb d_Ed_told_1 (by decide +kernel) (by decide +kernel) rfl rfl ?_
    refine lv_aload_n hx hb d_Ed_told_33 rfl (lv_at hl 0 rfl) ?_
    refine va_get (D := D) (ci := 1) (v := .int (iI (pt))) (C := R_Ed) (T := T_Ed) (N := 5) hx hb hts (fun w h => List.mem_cons_of_mem _ (in_Ed w h)) hown hK hP 0 rfl rfl 2 (by decide) (hts _ (List.mem_cons_of_mem _ tw_42)) (fun _ h9 => h9) rfl d_Ed_told_34 ?_
    exact W.iret (v := (iI (pt))) hx hb hr (fun t9 ht9 hW9 => ⟨⟨(iI (pt)), [(x, .inr (1, [.ref dg, .int (iI (((dl X : Nat) : Int))), .int (iI (pt)), .int (iI (zl)), .ref q])), (dg, .inl (cB, 1200, .inl g))], rfl, ⟨rfl, rfl⟩, by rw [ht9]; exact hP, hD⟩, hS.F ht9⟩) hS.2.2 d_Ed_told_37
  · skip
    refine lv_tableIn (tgt := 38) hx hb d_Ed_told_1 (by decide +kernel) (by decide +kernel) rfl rfl ?_
    refine lv_aload_n hx hb d_Ed_told_38 rfl (lv_at hl 0 rfl) ?_
    refine va_get (D := D) (ci := 1) (v := .int (iI (zl))) (C := R_Ed) (T := T_Ed) (N := 5) hx hb hts (fun w h => List.mem_cons_of_mem _ (in_Ed w h)) hown hK hP 0 rfl rfl 3 (by decide) (hts _ (List.mem_cons_of_mem _ tw_43)) (fun _ h9 => h9) rfl d_Ed_told_39 ?_
    refine ed_if_eq (tgt := 49) hx hb d_Ed_told_42 rfl (by omega) (fun h_1 => ?_) (fun h_1 => ?_)
    · skip
      refine ed_pc (pc' := 49) rfl ?_
      refine lv_iconst (v := iI 0) hx hb d_Ed_told_49 rfl ?_
      refine ed_tz (y := zl) (by omega) ?_
      exact W.iret (v := (iI (zl))) hx hb hr (fun t9 ht9 hW9 => ⟨⟨(iI (zl)), [(x, .inr (1, [.ref dg, .int (iI (((dl X : Nat) : Int))), .int (iI (pt)), .int (iI (zl)), .ref q])), (dg, .inl (cB, 1200, .inl g))], rfl, ⟨rfl, rfl⟩, by rw [ht9]; exact hP, hD⟩, hS.F ht9⟩) hS.2.2 d_Ed_told_50
    · skip
      refine ed_pc (pc' := 45) rfl ?_
      refine lv_iconst (v := iI 1) hx hb d_Ed_told_45 rfl ?_
      refine lv_goto (tgt := 50) hx hb d_Ed_told_46 rfl ?_
      refine ed_tz (y := zl) (by omega) ?_
      exact W.iret (v := (iI (zl))) hx hb hr (fun t9 ht9 hW9 => ⟨⟨(iI (zl)), [(x, .inr (1, [.ref dg, .int (iI (((dl X : Nat) : Int))), .int (iI (pt)), .int (iI (zl)), .ref q])), (dg, .inl (cB, 1200, .inl g))], rfl, ⟨rfl, rfl⟩, by rw [ht9]; exact hP, hD⟩, hS.F ht9⟩) hS.2.2 d_Ed_told_50
end
section
set_option maxHeartbeats 4000000 in
set_option maxRecDepth 100000 in
theorem c_Ed_move (l : Launch) (D : va_G) (cB cI cJ : ClassId) (t5 : Nat) (ad : Nat → Nat) (x dg q : Nat) (g : Nat → Int32) (pt zl k : Int) (X : Nat) (hX12 : dl X ≤ 1200) (hpt : -100000000 ≤ pt ∧ pt ≤ 100000000) (hk : -5000 ≤ k ∧ k ≤ 5000) (hm : X = 0 ∨ (-10000 ≤ pt + k ∧ pt + k ≤ 10000)) : c_I l m_Ed_move (Cond.code m_Ed_move b_Ed_move 3 (some .int) :: gw) (rm_ 6 90) (eX t5 ad) D ecl (tyS cB cI cJ) [.ref x, .int (iI (k))] [(x, .inr (1, [.ref dg, .int (iI (((dl X : Nat) : Int))), .int (iI (pt)), .int (iI (zl)), .ref q])), (dg, .inl (cB, 1200, .inl g))] (fun r u => r = iI (if X = 0 then 0 else pt + k) ∧ u = [(x, .inr (1, [.ref dg, .int (iI (((dl X : Nat) : Int))), .int (iI (if X = 0 then pt else pt + k)), .int (iI (zl)), .ref q])), (dg, .inl (cB, 1200, .inl g))]) 0 0 := by
  intro sz0
  refine Met.ofW (cc := b_Ed_move) (maxL := 3) (ret := (some .int)) (by decide) rfl ?_
  intro p e s m args below meth c s₁ B hml hv
  obtain ⟨rfl, hsz, hP, hK, hD0, hE⟩ := hv
  have hx := B.exec
  have hb := B.bytes
  have hr := B.returns
  have hts := atoms_spec (ws := Cond.code m_Ed_move b_Ed_move 3 (some .int) :: gw) B.pre
  have hown : s.vm.findClass R_Ed = some m.cls := findClass_of_methodNamed B.named
  have hlocks := B.notSynchronized
  subst hsz
  have hD := hD0.self (sz := s.heap.size)
  generalize hAe : va_A [(x, .inr (1, [.ref dg, .int (iI (((dl X : Nat) : Int))), .int (iI (pt)), .int (iI (zl)), .ref q])), (dg, .inl (cB, 1200, .inl g))] s.heap.size = A at hD hE ⊢
  have hA : ∀ q : Nat, s.heap.size ≤ q → A q := fun q h => by rw [← hAe]; exact Or.inr h
  have hS : va_S A s.heap s.heap [] := va_S.rf
  have hl := lv_entry ([.ref x, .int (iI (k))]) (n := 3) (Nat.le_of_ble_eq_true rfl)
  rw [lg_entry_eq]
  generalize (lg_sl ([.ref x, .int (iI (k))]) ++ List.replicate (3 - (lg_sl ([.ref x, .int (iI (k))])).length) Slot.unset).toArray = ls at hl ⊢
  have hl : lv_has ls 3 [(0, .ref x), (1, .int (iI (k)))] := hl
  have hd0 : dl X = 0 ↔ X = 0 := ⟨fun z => dl_eq0 z, fun z => by rw [z, dl_0]⟩
  refine lv_iload_n hx hb d_Ed_move_0 rfl (lv_at hl 1 rfl) ?_
  refine lv_sipush (v := iI 5000) hx hb d_Ed_move_1 (by decide +kernel) ?_
  refine c_fi (wc := []) (wr := [(x, .inr (1, [.ref dg, .int (iI (((dl X : Nat) : Int))), .int (iI (pt)), .int (iI (zl)), .ref q])), (dg, .inl (cB, 1200, .inl g))]) (va_runS (As := [.int (iI (k)), .int (iI (5000))]) (rest := []) ⟨hx, hb, hml, hown, hts⟩ (c_Ed_isBeyond l D cB cI cJ t5 ad (k) 5000 (by omega) (by omega) s.heap.size) (va_cwS 2 hts (gS tw_281 tw_282 tw_1 tw_283) rfl rfl rfl (by decide +kernel) ⟨Nat.le_of_ble_eq_true rfl, Nat.le_of_ble_eq_true rfl⟩) ⟨c_blind (eX_X t5 ad), fun U hU hW => c_pre (wc := []) (eX_X t5 ad) hE hK hP hD hS hA [] rfl (by decide) U hU hW⟩ rfl rfl hl.1 rfl (lv_room (Nat.le_of_ble_eq_true rfl)) d_Ed_move_4 ⟨Nat.le_of_ble_eq_true rfl, Nat.le_of_ble_eq_true rfl⟩) hP hD hS hA [] [0, 1] rfl rfl (by decide) (by decide) (fun r u H locs hp hP hD hS => ?_)
  obtain ⟨rfl, rfl⟩ := hp
  have hP : va_P D ecl [(x, .inr (1, [.ref dg, .int (iI (((dl X : Nat) : Int))), .int (iI (pt)), .int (iI (zl)), .ref q])), (dg, .inl (cB, 1200, .inl g))] H := hP
  have hD : va_D A [(x, .inr (1, [.ref dg, .int (iI (((dl X : Nat) : Int))), .int (iI (pt)), .int (iI (zl)), .ref q])), (dg, .inl (cB, 1200, .inl g))] := hD
  obtain ⟨zb, hzb, hzb2⟩ : ∃ zb : Int, zb = (if k < -5000 ∨ 5000 < k then 1 else 0) ∧ ((zb = 1 ∧ (k < -5000 ∨ 5000 < k)) ∨ (zb = 0 ∧ ¬ (k < -5000 ∨ 5000 < k))) := ⟨_, rfl, by split <;> simp_all⟩
  refine ed_tz (y := zb) (hzb.symm) ?_
  refine ed_if_eq (tgt := 18) hx hb d_Ed_move_7 rfl (by omega) (fun h_1 => ?_) (fun h_1 => ?_)
  · skip
    refine ed_pc (pc' := 18) rfl ?_
    refine lv_aload_n hx hb d_Ed_move_18 rfl (lv_at hl 0 rfl) ?_
    refine va_get (D := D) (ci := 1) (v := .int (iI (((dl X : Nat) : Int)))) (C := R_Ed) (T := T_Ed) (N := 5) hx hb hts (fun w h => List.mem_cons_of_mem _ (in_Ed w h)) hown hK hP 0 rfl rfl 1 (by decide) (hts _ (List.mem_cons_of_mem _ tw_41)) (fun _ h9 => h9) rfl d_Ed_move_19 ?_
    refine ed_if_ne (tgt := 27) hx hb d_Ed_move_22 rfl (by omega) (fun h_2 => ?_) (fun h_2 => ?_)
    · skip
      refine ed_pc (pc' := 27) rfl ?_
      refine ed_pc (pc' := 27) rfl ?_
      refine lv_aload_n hx hb d_Ed_move_27 rfl (lv_at hl 0 rfl) ?_
      refine va_get (D := D) (ci := 1) (v := .int (iI (pt))) (C := R_Ed) (T := T_Ed) (N := 5) hx hb hts (fun w h => List.mem_cons_of_mem _ (in_Ed w h)) hown hK hP 0 rfl rfl 2 (by decide) (hts _ (List.mem_cons_of_mem _ tw_42)) (fun _ h9 => h9) rfl d_Ed_move_28 ?_
      refine lv_iload_n hx hb d_Ed_move_31 rfl (lv_at hl 1 rfl) ?_
      refine ed_iadd hx hb d_Ed_move_32 ?_
      refine lv_istore_n hx hb d_Ed_move_33 rfl hl (by decide) rfl (fun ls hl => ?_)
      have hl : lv_has ls 3 [(2, .int (iI ((pt) + (k)))), (0, .ref x), (1, .int (iI (k)))] := hl
      refine lv_iload_n hx hb d_Ed_move_34 rfl (lv_at hl 0 rfl) ?_
      refine lv_sipush (v := iI 10000) hx hb d_Ed_move_35 (by decide +kernel) ?_
      refine c_fi (wc := []) (wr := [(x, .inr (1, [.ref dg, .int (iI (((dl X : Nat) : Int))), .int (iI (pt)), .int (iI (zl)), .ref q])), (dg, .inl (cB, 1200, .inl g))]) (va_runS (As := [.int (iI ((pt) + (k))), .int (iI (10000))]) (rest := []) ⟨hx, hb, hml, hown, hts⟩ (c_Ed_isBeyond l D cB cI cJ t5 ad (pt + k) 10000 (by omega) (by omega) H.size) (va_cwS 2 hts (gS tw_281 tw_282 tw_1 tw_283) rfl rfl rfl (by decide +kernel) ⟨Nat.le_of_ble_eq_true rfl, Nat.le_of_ble_eq_true rfl⟩) ⟨c_blind (eX_X t5 ad), fun U hU hW => c_pre (wc := []) (eX_X t5 ad) hE hK hP hD hS hA [] rfl (by decide) U hU hW⟩ rfl rfl hl.1 rfl (lv_room (Nat.le_of_ble_eq_true rfl)) d_Ed_move_38 ⟨Nat.le_of_ble_eq_true rfl, Nat.le_of_ble_eq_true rfl⟩) hP hD hS hA [] [0, 1] rfl rfl (by decide) (by decide) (fun r u H locs hp hP hD hS => ?_)
      obtain ⟨rfl, rfl⟩ := hp
      have hP : va_P D ecl [(x, .inr (1, [.ref dg, .int (iI (((dl X : Nat) : Int))), .int (iI (pt)), .int (iI (zl)), .ref q])), (dg, .inl (cB, 1200, .inl g))] H := hP
      have hD : va_D A [(x, .inr (1, [.ref dg, .int (iI (((dl X : Nat) : Int))), .int (iI (pt)), .int (iI (zl)), .ref q])), (dg, .inl (cB, 1200, .inl g))] := hD
      obtain ⟨zb, hzb, hzb2⟩ : ∃ zb : Int, zb = (if pt + k < -10000 ∨ 10000 < pt + k then 1 else 0) ∧ ((zb = 1 ∧ (pt + k < -10000 ∨ 10000 < pt + k)) ∨ (zb = 0 ∧ ¬ (pt + k < -10000 ∨ 10000 < pt + k))) := ⟨_, rfl, by split <;> simp_all⟩
      refine ed_tz (y := zb) (hzb.symm) ?_
      refine ed_pc (pc' := 41) rfl ?_
      refine ed_if_eq (tgt := 52) hx hb d_Ed_move_41 rfl (by omega) (fun h_3 => ?_) (fun h_3 => ?_)
      · skip
        refine ed_pc (pc' := 52) rfl ?_
        refine lv_aload_n hx hb d_Ed_move_52 rfl (lv_at hl 1 rfl) ?_
        refine lv_iload_n hx hb d_Ed_move_53 rfl (lv_at hl 0 rfl) ?_
        refine va_put (D := D) (ci := 1) (v := .int (iI ((pt) + (k)))) (ty := .int) (C := R_Ed) (T := T_Ed) (N := 5) hx hb hts (fun w h => List.mem_cons_of_mem _ (in_Ed w h)) y_Ed t_Ed n_Ed hown hK hP hD hS 0 rfl rfl 2 (by decide) (hts _ (List.mem_cons_of_mem _ tw_42)) (fun _ h9 => h9) rfl (by decide +kernel) rfl rfl (Nat.le_of_ble_eq_true rfl) d_Ed_move_54 (fun H locs hP hD hS => ?_)
        have hP : va_P D ecl [(x, .inr (1, [.ref dg, .int (iI (((dl X : Nat) : Int))), .int (iI ((pt) + (k))), .int (iI (zl)), .ref q])), (dg, .inl (cB, 1200, .inl g))] H := hP
        have hD : va_D A [(x, .inr (1, [.ref dg, .int (iI (((dl X : Nat) : Int))), .int (iI ((pt) + (k))), .int (iI (zl)), .ref q])), (dg, .inl (cB, 1200, .inl g))] := hD
        refine lv_aload_n hx hb d_Ed_move_57 rfl (lv_at hl 1 rfl) ?_
        refine va_get (D := D) (ci := 1) (v := .int (iI ((pt) + (k)))) (C := R_Ed) (T := T_Ed) (N := 5) hx hb hts (fun w h => List.mem_cons_of_mem _ (in_Ed w h)) hown hK hP 0 rfl rfl 2 (by decide) (hts _ (List.mem_cons_of_mem _ tw_42)) (fun _ h9 => h9) rfl d_Ed_move_58 ?_
        exact W.iret (v := (iI ((pt) + (k)))) hx hb hr (fun t9 ht9 hW9 => ⟨⟨(iI ((pt) + (k))), [(x, .inr (1, [.ref dg, .int (iI (((dl X : Nat) : Int))), .int (iI ((pt) + (k))), .int (iI (zl)), .ref q])), (dg, .inl (cB, 1200, .inl g))], rfl, ⟨by rw [if_neg (by omega)], by rw [if_neg (by omega)]⟩, by rw [ht9]; exact hP, hD⟩, hS.F ht9⟩) hS.2.2 d_Ed_move_61
      · exact absurd h_3 (by omega)
    · skip
      refine ed_pc (pc' := 25) rfl ?_
      refine ed_pc (pc' := 25) rfl ?_
      refine lv_iconst (v := iI 0) hx hb d_Ed_move_25 rfl ?_
      exact W.iret (v := (iI (0))) hx hb hr (fun t9 ht9 hW9 => ⟨⟨(iI (0)), [(x, .inr (1, [.ref dg, .int (iI (((dl X : Nat) : Int))), .int (iI (pt)), .int (iI (zl)), .ref q])), (dg, .inl (cB, 1200, .inl g))], rfl, ⟨by rw [if_pos (by omega)], by rw [if_pos (by omega)]⟩, by rw [ht9]; exact hP, hD⟩, hS.F ht9⟩) hS.2.2 d_Ed_move_26
  · exact absurd h_1 (by omega)
set_option maxHeartbeats 4000000 in
set_option maxRecDepth 100000 in
theorem c_Ed_move_no (l : Launch) (hl0 : l.stackTraces = false) (D : va_G) (cB cI cJ : ClassId) (t5 : Nat) (ad : Nat → Nat) (x dg q : Nat) (g : Nat → Int32) (pt zl k : Int) (X : Nat) (hX12 : dl X ≤ 1200) (hpt : -100000000 ≤ pt ∧ pt ≤ 100000000) (hk : iR k) (hm : k < -5000 ∨ 5000 < k ∨ (¬ X = 0 ∧ (pt + k < -10000 ∨ 10000 < pt + k))) : c_T l m_Ed_move (Cond.code m_Ed_move b_Ed_move 3 (some .int) :: gw) (rmx_ 6 90) (eX t5 ad) D ecl (tyS cB cI cJ) [.ref x, .int (iI (k))] [(x, .inr (1, [.ref dg, .int (iI (((dl X : Nat) : Int))), .int (iI (pt)), .int (iI (zl)), .ref q])), (dg, .inl (cB, 1200, .inl g))] xIA := by
  intro sz0
  refine vx_ofW (cc := b_Ed_move) (maxL := 3) (ret := (some .int)) (by decide) rfl ?_
  intro p e s m args below meth c s₁ B hml htab hv
  obtain ⟨rfl, hsz, hP, hK, hD0, hE⟩ := hv
  have hx := B.exec
  have hb := B.bytes
  have hr := B.returns
  have hts := atoms_spec (ws := Cond.code m_Ed_move b_Ed_move 3 (some .int) :: gw) B.pre
  have hown : s.vm.findClass R_Ed = some m.cls := findClass_of_methodNamed B.named
  have hlocks := B.notSynchronized
  subst hsz
  have hD := hD0.self (sz := s.heap.size)
  generalize hAe : va_A [(x, .inr (1, [.ref dg, .int (iI (((dl X : Nat) : Int))), .int (iI (pt)), .int (iI (zl)), .ref q])), (dg, .inl (cB, 1200, .inl g))] s.heap.size = A at hD hE ⊢
  have hA : ∀ q : Nat, s.heap.size ≤ q → A q := fun q h => by rw [← hAe]; exact Or.inr h
  have hS : va_S A s.heap s.heap [] := va_S.rf
  have hl := lv_entry ([.ref x, .int (iI (k))]) (n := 3) (Nat.le_of_ble_eq_true rfl)
  rw [lg_entry_eq]
  generalize (lg_sl ([.ref x, .int (iI (k))]) ++ List.replicate (3 - (lg_sl ([.ref x, .int (iI (k))])).length) Slot.unset).toArray = ls at hl ⊢
  have hl : lv_has ls 3 [(0, .ref x), (1, .int (iI (k)))] := hl
  have hd0 : dl X = 0 ↔ X = 0 := ⟨fun z => dl_eq0 z, fun z => by rw [z, dl_0]⟩
  refine lv_iload_n hx hb d_Ed_move_0 rfl (lv_at hl 1 rfl) ?_
  refine lv_sipush (v := iI 5000) hx hb d_Ed_move_1 (by decide +kernel) ?_
  refine c_fi (wc := []) (wr := [(x, .inr (1, [.ref dg, .int (iI (((dl X : Nat) : Int))), .int (iI (pt)), .int (iI (zl)), .ref q])), (dg, .inl (cB, 1200, .inl g))]) (va_runS (As := [.int (iI (k)), .int (iI (5000))]) (rest := []) ⟨hx, hb, hml, hown, hts⟩ (c_Ed_isBeyond l D cB cI cJ t5 ad (k) 5000 (by omega) (by omega) s.heap.size) (va_cwS 2 hts (gS tw_281 tw_282 tw_1 tw_283) rfl rfl rfl (by decide +kernel) ⟨Nat.le_of_ble_eq_true rfl, Nat.le_of_ble_eq_true rfl⟩) ⟨c_blind (eX_X t5 ad), fun U hU hW => c_pre (wc := []) (eX_X t5 ad) hE hK hP hD hS hA [] rfl (by decide) U hU hW⟩ rfl rfl hl.1 rfl (lv_room (Nat.le_of_ble_eq_true rfl)) d_Ed_move_4 ⟨Nat.le_of_ble_eq_true rfl, Nat.le_of_ble_eq_true rfl⟩) hP hD hS hA [] [0, 1] rfl rfl (by decide) (by decide) (fun r u H locs hp hP hD hS => ?_)
  obtain ⟨rfl, rfl⟩ := hp
  have hP : va_P D ecl [(x, .inr (1, [.ref dg, .int (iI (((dl X : Nat) : Int))), .int (iI (pt)), .int (iI (zl)), .ref q])), (dg, .inl (cB, 1200, .inl g))] H := hP
  have hD : va_D A [(x, .inr (1, [.ref dg, .int (iI (((dl X : Nat) : Int))), .int (iI (pt)), .int (iI (zl)), .ref q])), (dg, .inl (cB, 1200, .inl g))] := hD
  obtain ⟨zb, hzb, hzb2⟩ : ∃ zb : Int, zb = (if k < -5000 ∨ 5000 < k then 1 else 0) ∧ ((zb = 1 ∧ (k < -5000 ∨ 5000 < k)) ∨ (zb = 0 ∧ ¬ (k < -5000 ∨ 5000 < k))) := ⟨_, rfl, by split <;> simp_all⟩
  refine ed_tz (y := zb) (hzb.symm) ?_
  refine ed_if_eq (tgt := 18) hx hb d_Ed_move_7 rfl (by omega) (fun h_1 => ?_) (fun h_1 => ?_)
  · skip
    refine ed_pc (pc' := 18) rfl ?_
    refine lv_aload_n hx hb d_Ed_move_18 rfl (lv_at hl 0 rfl) ?_
    refine va_get (D := D) (ci := 1) (v := .int (iI (((dl X : Nat) : Int)))) (C := R_Ed) (T := T_Ed) (N := 5) hx hb hts (fun w h => List.mem_cons_of_mem _ (in_Ed w h)) hown hK hP 0 rfl rfl 1 (by decide) (hts _ (List.mem_cons_of_mem _ tw_41)) (fun _ h9 => h9) rfl d_Ed_move_19 ?_
    refine ed_if_ne (tgt := 27) hx hb d_Ed_move_22 rfl (by omega) (fun h_2 => ?_) (fun h_2 => ?_)
    · skip
      refine ed_pc (pc' := 27) rfl ?_
      refine ed_pc (pc' := 27) rfl ?_
      refine lv_aload_n hx hb d_Ed_move_27 rfl (lv_at hl 0 rfl) ?_
      refine va_get (D := D) (ci := 1) (v := .int (iI (pt))) (C := R_Ed) (T := T_Ed) (N := 5) hx hb hts (fun w h => List.mem_cons_of_mem _ (in_Ed w h)) hown hK hP 0 rfl rfl 2 (by decide) (hts _ (List.mem_cons_of_mem _ tw_42)) (fun _ h9 => h9) rfl d_Ed_move_28 ?_
      refine lv_iload_n hx hb d_Ed_move_31 rfl (lv_at hl 1 rfl) ?_
      refine ed_iadd hx hb d_Ed_move_32 ?_
      refine lv_istore_n hx hb d_Ed_move_33 rfl hl (by decide) rfl (fun ls hl => ?_)
      have hl : lv_has ls 3 [(2, .int (iI ((pt) + (k)))), (0, .ref x), (1, .int (iI (k)))] := hl
      refine lv_iload_n hx hb d_Ed_move_34 rfl (lv_at hl 0 rfl) ?_
      refine lv_sipush (v := iI 10000) hx hb d_Ed_move_35 (by decide +kernel) ?_
      refine c_fi (wc := []) (wr := [(x, .inr (1, [.ref dg, .int (iI (((dl X : Nat) : Int))), .int (iI (pt)), .int (iI (zl)), .ref q])), (dg, .inl (cB, 1200, .inl g))]) (va_runS (As := [.int (iI ((pt) + (k))), .int (iI (10000))]) (rest := []) ⟨hx, hb, hml, hown, hts⟩ (c_Ed_isBeyond l D cB cI cJ t5 ad (pt + k) 10000 (by omega) (by omega) H.size) (va_cwS 2 hts (gS tw_281 tw_282 tw_1 tw_283) rfl rfl rfl (by decide +kernel) ⟨Nat.le_of_ble_eq_true rfl, Nat.le_of_ble_eq_true rfl⟩) ⟨c_blind (eX_X t5 ad), fun U hU hW => c_pre (wc := []) (eX_X t5 ad) hE hK hP hD hS hA [] rfl (by decide) U hU hW⟩ rfl rfl hl.1 rfl (lv_room (Nat.le_of_ble_eq_true rfl)) d_Ed_move_38 ⟨Nat.le_of_ble_eq_true rfl, Nat.le_of_ble_eq_true rfl⟩) hP hD hS hA [] [0, 1] rfl rfl (by decide) (by decide) (fun r u H locs hp hP hD hS => ?_)
      obtain ⟨rfl, rfl⟩ := hp
      have hP : va_P D ecl [(x, .inr (1, [.ref dg, .int (iI (((dl X : Nat) : Int))), .int (iI (pt)), .int (iI (zl)), .ref q])), (dg, .inl (cB, 1200, .inl g))] H := hP
      have hD : va_D A [(x, .inr (1, [.ref dg, .int (iI (((dl X : Nat) : Int))), .int (iI (pt)), .int (iI (zl)), .ref q])), (dg, .inl (cB, 1200, .inl g))] := hD
      obtain ⟨zb, hzb, hzb2⟩ : ∃ zb : Int, zb = (if pt + k < -10000 ∨ 10000 < pt + k then 1 else 0) ∧ ((zb = 1 ∧ (pt + k < -10000 ∨ 10000 < pt + k)) ∨ (zb = 0 ∧ ¬ (pt + k < -10000 ∨ 10000 < pt + k))) := ⟨_, rfl, by split <;> simp_all⟩
      refine ed_tz (y := zb) (hzb.symm) ?_
      refine ed_pc (pc' := 41) rfl ?_
      refine ed_if_eq (tgt := 52) hx hb d_Ed_move_41 rfl (by omega) (fun h_3 => ?_) (fun h_3 => ?_)
      · exact absurd h_3 (by omega)
      · skip
        refine ed_pc (pc' := 44) rfl ?_
        exact vx_throw0 (own := "ExactDigits") (cls := xIA) (names := xNm) (rest := []) hx hb hl0 hown (by decide +kernel) (by decide +kernel) (hts _ (List.mem_cons_of_mem _ tw_284)) (hts _ (List.mem_cons_of_mem _ tw_15)) (vx_hat (fun w h => hts w (List.mem_cons_of_mem _ (ta_IA w h))) tb_IA (eW_IA hE.2.2.2.2.2.2.2.2.2.2.2)) tg_IA hE.2.2.2.2.2.2.2.2.2.1 hE.2.2.2.2.2.2.2.2.2.2.1 hS (hl.1.trans hml.symm) d_Ed_move_44 d_Ed_move_47 d_Ed_move_48 d_Ed_move_51 (fun x h => (htab x h).elim) (Nat.le_of_ble_eq_true rfl) (Nat.le_of_ble_eq_true rfl) (Nat.le_of_ble_eq_true rfl) (Nat.le_of_ble_eq_true rfl) hlocks (fun t9 hv9 hz9 hk9 => c_xc hP hD hS hz9 hk9) hS.2.2 (Nat.le_of_ble_eq_true rfl) (Nat.le_of_ble_eq_true rfl)
    · exact absurd h_2 (by omega)
  · skip
    refine ed_pc (pc' := 10) rfl ?_
    exact vx_throw0 (own := "ExactDigits") (cls := xIA) (names := xNm) (rest := []) hx hb hl0 hown (by decide +kernel) (by decide +kernel) (hts _ (List.mem_cons_of_mem _ tw_284)) (hts _ (List.mem_cons_of_mem _ tw_15)) (vx_hat (fun w h => hts w (List.mem_cons_of_mem _ (ta_IA w h))) tb_IA (eW_IA hE.2.2.2.2.2.2.2.2.2.2.2)) tg_IA hE.2.2.2.2.2.2.2.2.2.1 hE.2.2.2.2.2.2.2.2.2.2.1 hS (hl.1.trans hml.symm) d_Ed_move_10 d_Ed_move_13 d_Ed_move_14 d_Ed_move_17 (fun x h => (htab x h).elim) (Nat.le_of_ble_eq_true rfl) (Nat.le_of_ble_eq_true rfl) (Nat.le_of_ble_eq_true rfl) (Nat.le_of_ble_eq_true rfl) hlocks (fun t9 hv9 hz9 hk9 => c_xc hP hD hS hz9 hk9) hS.2.2 (Nat.le_of_ble_eq_true rfl) (Nat.le_of_ble_eq_true rfl)
set_option maxHeartbeats 4000000 in
set_option maxRecDepth 100000 in
theorem c_Ed_cut (l : Launch) (D : va_G) (cB cI cJ : ClassId) (t5 : Nat) (ad : Nat → Nat) (x dg q : Nat) (g : Nat → Int32) (pt zl n : Int) (X : Nat) (hnm : nm_ok g X) (hpt : -100000000 ≤ pt ∧ pt ≤ 100000000) (hk : -2000 ≤ n ∧ n ≤ 2000) : c_I l m_Ed_cut (Cond.code m_Ed_cut b_Ed_cut 2 (some .int) :: gw) (rm_ 6 90) (eX t5 ad) D ecl (tyS cB cI cJ) [.ref x, .int (iI (n))] [(x, .inr (1, [.ref dg, .int (iI (((dl X : Nat) : Int))), .int (iI (pt)), .int (iI (zl)), .ref q])), (dg, .inl (cB, 1200, .inl g))] (fun r u => r = iI ((dl (rz (kfY X (pt + n))) : Nat) : Int) ∧ nm_ok g (rz (kfY X (pt + n))) ∧ u = [(x, .inr (1, [.ref dg, .int (iI (((dl (rz (kfY X (pt + n))) : Nat) : Int))), .int (iI (if kfY X (pt + n) = 0 then 0 else pt)), .int (iI (0)), .ref q])), (dg, .inl (cB, 1200, .inl g))]) 0 0 := by
  intro sz0
  refine Met.ofW (cc := b_Ed_cut) (maxL := 2) (ret := (some .int)) (by decide) rfl ?_
  intro p e s m args below meth c s₁ B hml hv
  obtain ⟨rfl, hsz, hP, hK, hD0, hE⟩ := hv
  have hx := B.exec
  have hb := B.bytes
  have hr := B.returns
  have hts := atoms_spec (ws := Cond.code m_Ed_cut b_Ed_cut 2 (some .int) :: gw) B.pre
  have hown : s.vm.findClass R_Ed = some m.cls := findClass_of_methodNamed B.named
  have hlocks := B.notSynchronized
  subst hsz
  have hD := hD0.self (sz := s.heap.size)
  generalize hAe : va_A [(x, .inr (1, [.ref dg, .int (iI (((dl X : Nat) : Int))), .int (iI (pt)), .int (iI (zl)), .ref q])), (dg, .inl (cB, 1200, .inl g))] s.heap.size = A at hD hE ⊢
  have hA : ∀ q : Nat, s.heap.size ≤ q → A q := fun q h => by rw [← hAe]; exact Or.inr h
  have hS : va_S A s.heap s.heap [] := va_S.rf
  have hl := lv_entry ([.ref x, .int (iI (n))]) (n := 2) (Nat.le_of_ble_eq_true rfl)
  rw [lg_entry_eq]
  generalize (lg_sl ([.ref x, .int (iI (n))]) ++ List.replicate (2 - (lg_sl ([.ref x, .int (iI (n))])).length) Slot.unset).toArray = ls at hl ⊢
  have hl : lv_has ls 2 [(0, .ref x), (1, .int (iI (n)))] := hl
  refine lv_iload_n hx hb d_Ed_cut_0 rfl (lv_at hl 1 rfl) ?_
  refine lv_sipush (v := iI 2000) hx hb d_Ed_cut_1 (by decide +kernel) ?_
  refine c_fi (wc := []) (wr := [(x, .inr (1, [.ref dg, .int (iI (((dl X : Nat) : Int))), .int (iI (pt)), .int (iI (zl)), .ref q])), (dg, .inl (cB, 1200, .inl g))]) (va_runS (As := [.int (iI (n)), .int (iI (2000))]) (rest := []) ⟨hx, hb, hml, hown, hts⟩ (c_Ed_isBeyond l D cB cI cJ t5 ad (n) 2000 (by omega) (by omega) s.heap.size) (va_cwS 2 hts (gS tw_281 tw_282 tw_1 tw_283) rfl rfl rfl (by decide +kernel) ⟨Nat.le_of_ble_eq_true rfl, Nat.le_of_ble_eq_true rfl⟩) ⟨c_blind (eX_X t5 ad), fun U hU hW => c_pre (wc := []) (eX_X t5 ad) hE hK hP hD hS hA [] rfl (by decide) U hU hW⟩ rfl rfl hl.1 rfl (lv_room (Nat.le_of_ble_eq_true rfl)) d_Ed_cut_4 ⟨Nat.le_of_ble_eq_true rfl, Nat.le_of_ble_eq_true rfl⟩) hP hD hS hA [] [0, 1] rfl rfl (by decide) (by decide) (fun r u H locs hp hP hD hS => ?_)
  obtain ⟨rfl, rfl⟩ := hp
  have hP : va_P D ecl [(x, .inr (1, [.ref dg, .int (iI (((dl X : Nat) : Int))), .int (iI (pt)), .int (iI (zl)), .ref q])), (dg, .inl (cB, 1200, .inl g))] H := hP
  have hD : va_D A [(x, .inr (1, [.ref dg, .int (iI (((dl X : Nat) : Int))), .int (iI (pt)), .int (iI (zl)), .ref q])), (dg, .inl (cB, 1200, .inl g))] := hD
  obtain ⟨zb, hzb, hzb2⟩ : ∃ zb : Int, zb = (if n < -2000 ∨ 2000 < n then 1 else 0) ∧ ((zb = 1 ∧ (n < -2000 ∨ 2000 < n)) ∨ (zb = 0 ∧ ¬ (n < -2000 ∨ 2000 < n))) := ⟨_, rfl, by split <;> simp_all⟩
  refine ed_tz (y := zb) (hzb.symm) ?_
  refine ed_if_eq (tgt := 18) hx hb d_Ed_cut_7 rfl (by omega) (fun h_1 => ?_) (fun h_1 => ?_)
  · skip
    refine ed_pc (pc' := 18) rfl ?_
    refine lv_aload_n hx hb d_Ed_cut_18 rfl (lv_at hl 0 rfl) ?_
    refine lv_aload_n hx hb d_Ed_cut_19 rfl (lv_at hl 0 rfl) ?_
    refine va_get (D := D) (ci := 1) (v := .int (iI (pt))) (C := R_Ed) (T := T_Ed) (N := 5) hx hb hts (fun w h => List.mem_cons_of_mem _ (in_Ed w h)) hown hK hP 0 rfl rfl 2 (by decide) (hts _ (List.mem_cons_of_mem _ tw_42)) (fun _ h9 => h9) rfl d_Ed_cut_20 ?_
    refine ed_pc (pc' := 23) rfl ?_
    refine lv_iload_n hx hb d_Ed_cut_23 rfl (lv_at hl 1 rfl) ?_
    refine ed_iadd hx hb d_Ed_cut_24 ?_
    refine c_fv (wc := [(x, .inr (1, [.ref dg, .int (iI (((dl X : Nat) : Int))), .int (iI (pt)), .int (iI (zl)), .ref q])), (dg, .inl (cB, 1200, .inl g))]) (wr := []) (va_runV (C := "ExactDigits") (As := [.int (iI ((pt) + (n)))]) (rest := []) ⟨hx, hb, hml, hown, hts⟩ (c_Ed_keepFirst l D cB cI cJ t5 ad x dg q g pt zl (pt + n) X hnm (by omega) H.size) (cwV 1 hts (gV tw_328 tw_330 ts_14 tw_1 tw_331) rfl rfl rfl (by decide +kernel) ⟨Nat.le_of_ble_eq_true rfl, Nat.le_of_ble_eq_true rfl⟩) ⟨c_blind (eX_X t5 ad), va_recv (ci := 1) (q0 := 0) hK hP rfl rfl, fun U hU hW => c_pre (wc := [(x, .inr (1, [.ref dg, .int (iI (((dl X : Nat) : Int))), .int (iI (pt)), .int (iI (zl)), .ref q])), (dg, .inl (cB, 1200, .inl g))]) (eX_X t5 ad) hE hK hP hD hS hA [0, 1] rfl (by decide) U hU hW⟩ rfl rfl hl.1 rfl (lv_room (Nat.le_of_ble_eq_true rfl)) d_Ed_cut_25 ⟨Nat.le_of_ble_eq_true rfl, Nat.le_of_ble_eq_true rfl⟩) hP hD hS hA [0, 1] [] rfl rfl (by decide) (by decide) (fun u H locs hp hP hD hS => ?_)
    obtain ⟨hn2, rfl⟩ := hp
    have hP : va_P D ecl [(x, .inr (1, [.ref dg, .int (iI (((dl (rz (kfY X (pt + n))) : Nat) : Int))), .int (iI (if kfY X (pt + n) = 0 then 0 else pt)), .int (iI (0)), .ref q])), (dg, .inl (cB, 1200, .inl g))] H := hP
    have hD : va_D A [(x, .inr (1, [.ref dg, .int (iI (((dl (rz (kfY X (pt + n))) : Nat) : Int))), .int (iI (if kfY X (pt + n) = 0 then 0 else pt)), .int (iI (0)), .ref q])), (dg, .inl (cB, 1200, .inl g))] := hD
    refine lv_aload_n hx hb d_Ed_cut_28 rfl (lv_at hl 0 rfl) ?_
    refine va_get (D := D) (ci := 1) (v := .int (iI (((dl (rz (kfY X (pt + n))) : Nat) : Int)))) (C := R_Ed) (T := T_Ed) (N := 5) hx hb hts (fun w h => List.mem_cons_of_mem _ (in_Ed w h)) hown hK hP 0 rfl rfl 1 (by decide) (hts _ (List.mem_cons_of_mem _ tw_41)) (fun _ h9 => h9) rfl d_Ed_cut_29 ?_
    exact W.iret (v := (iI (((dl (rz (kfY X (pt + n))) : Nat) : Int)))) hx hb hr (fun t9 ht9 hW9 => ⟨⟨(iI (((dl (rz (kfY X (pt + n))) : Nat) : Int))), [(x, .inr (1, [.ref dg, .int (iI (((dl (rz (kfY X (pt + n))) : Nat) : Int))), .int (iI (if kfY X (pt + n) = 0 then 0 else pt)), .int (iI (0)), .ref q])), (dg, .inl (cB, 1200, .inl g))], rfl, ⟨rfl, hn2, rfl⟩, by rw [ht9]; exact hP, hD⟩, hS.F ht9⟩) hS.2.2 d_Ed_cut_32
  · exact absurd h_1 (by omega)
set_option maxHeartbeats 4000000 in
set_option maxRecDepth 100000 in
theorem c_Ed_cut_no (l : Launch) (hl0 : l.stackTraces = false) (D : va_G) (cB cI cJ : ClassId) (t5 : Nat) (ad : Nat → Nat) (x dg q : Nat) (g : Nat → Int32) (zc pt zl n : Int) (hk : iR n) (hm : n < -2000 ∨ 2000 < n) : c_T l m_Ed_cut (Cond.code m_Ed_cut b_Ed_cut 2 (some .int) :: gw) (rmx_ 6 90) (eX t5 ad) D ecl (tyS cB cI cJ) [.ref x, .int (iI (n))] [(x, .inr (1, [.ref dg, .int (iI (zc)), .int (iI (pt)), .int (iI (zl)), .ref q])), (dg, .inl (cB, 1200, .inl g))] xIA := by
  intro sz0
  refine vx_ofW (cc := b_Ed_cut) (maxL := 2) (ret := (some .int)) (by decide) rfl ?_
  intro p e s m args below meth c s₁ B hml htab hv
  obtain ⟨rfl, hsz, hP, hK, hD0, hE⟩ := hv
  have hx := B.exec
  have hb := B.bytes
  have hr := B.returns
  have hts := atoms_spec (ws := Cond.code m_Ed_cut b_Ed_cut 2 (some .int) :: gw) B.pre
  have hown : s.vm.findClass R_Ed = some m.cls := findClass_of_methodNamed B.named
  have hlocks := B.notSynchronized
  subst hsz
  have hD := hD0.self (sz := s.heap.size)
  generalize hAe : va_A [(x, .inr (1, [.ref dg, .int (iI (zc)), .int (iI (pt)), .int (iI (zl)), .ref q])), (dg, .inl (cB, 1200, .inl g))] s.heap.size = A at hD hE ⊢
  have hA : ∀ q : Nat, s.heap.size ≤ q → A q := fun q h => by rw [← hAe]; exact Or.inr h
  have hS : va_S A s.heap s.heap [] := va_S.rf
  have hl := lv_entry ([.ref x, .int (iI (n))]) (n := 2) (Nat.le_of_ble_eq_true rfl)
  rw [lg_entry_eq]
  generalize (lg_sl ([.ref x, .int (iI (n))]) ++ List.replicate (2 - (lg_sl ([.ref x, .int (iI (n))])).length) Slot.unset).toArray = ls at hl ⊢
  have hl : lv_has ls 2 [(0, .ref x), (1, .int (iI (n)))] := hl
  refine lv_iload_n hx hb d_Ed_cut_0 rfl (lv_at hl 1 rfl) ?_
  refine lv_sipush (v := iI 2000) hx hb d_Ed_cut_1 (by decide +kernel) ?_
  refine c_fi (wc := []) (wr := [(x, .inr (1, [.ref dg, .int (iI (zc)), .int (iI (pt)), .int (iI (zl)), .ref q])), (dg, .inl (cB, 1200, .inl g))]) (va_runS (As := [.int (iI (n)), .int (iI (2000))]) (rest := []) ⟨hx, hb, hml, hown, hts⟩ (c_Ed_isBeyond l D cB cI cJ t5 ad (n) 2000 (by omega) (by omega) s.heap.size) (va_cwS 2 hts (gS tw_281 tw_282 tw_1 tw_283) rfl rfl rfl (by decide +kernel) ⟨Nat.le_of_ble_eq_true rfl, Nat.le_of_ble_eq_true rfl⟩) ⟨c_blind (eX_X t5 ad), fun U hU hW => c_pre (wc := []) (eX_X t5 ad) hE hK hP hD hS hA [] rfl (by decide) U hU hW⟩ rfl rfl hl.1 rfl (lv_room (Nat.le_of_ble_eq_true rfl)) d_Ed_cut_4 ⟨Nat.le_of_ble_eq_true rfl, Nat.le_of_ble_eq_true rfl⟩) hP hD hS hA [] [0, 1] rfl rfl (by decide) (by decide) (fun r u H locs hp hP hD hS => ?_)
  obtain ⟨rfl, rfl⟩ := hp
  have hP : va_P D ecl [(x, .inr (1, [.ref dg, .int (iI (zc)), .int (iI (pt)), .int (iI (zl)), .ref q])), (dg, .inl (cB, 1200, .inl g))] H := hP
  have hD : va_D A [(x, .inr (1, [.ref dg, .int (iI (zc)), .int (iI (pt)), .int (iI (zl)), .ref q])), (dg, .inl (cB, 1200, .inl g))] := hD
  obtain ⟨zb, hzb, hzb2⟩ : ∃ zb : Int, zb = (if n < -2000 ∨ 2000 < n then 1 else 0) ∧ ((zb = 1 ∧ (n < -2000 ∨ 2000 < n)) ∨ (zb = 0 ∧ ¬ (n < -2000 ∨ 2000 < n))) := ⟨_, rfl, by split <;> simp_all⟩
  refine ed_tz (y := zb) (hzb.symm) ?_
  refine ed_if_eq (tgt := 18) hx hb d_Ed_cut_7 rfl (by omega) (fun h_1 => ?_) (fun h_1 => ?_)
  · exact absurd h_1 (by omega)
  · skip
    refine ed_pc (pc' := 10) rfl ?_
    exact vx_throw0 (own := "ExactDigits") (cls := xIA) (names := xNm) (rest := []) hx hb hl0 hown (by decide +kernel) (by decide +kernel) (hts _ (List.mem_cons_of_mem _ tw_284)) (hts _ (List.mem_cons_of_mem _ tw_15)) (vx_hat (fun w h => hts w (List.mem_cons_of_mem _ (ta_IA w h))) tb_IA (eW_IA hE.2.2.2.2.2.2.2.2.2.2.2)) tg_IA hE.2.2.2.2.2.2.2.2.2.1 hE.2.2.2.2.2.2.2.2.2.2.1 hS (hl.1.trans hml.symm) d_Ed_cut_10 d_Ed_cut_13 d_Ed_cut_14 d_Ed_cut_17 (fun x h => (htab x h).elim) (Nat.le_of_ble_eq_true rfl) (Nat.le_of_ble_eq_true rfl) (Nat.le_of_ble_eq_true rfl) (Nat.le_of_ble_eq_true rfl) hlocks (fun t9 hv9 hz9 hk9 => c_xc hP hD hS hz9 hk9) hS.2.2 (Nat.le_of_ble_eq_true rfl) (Nat.le_of_ble_eq_true rfl)
set_option maxHeartbeats 4000000 in
set_option maxRecDepth 100000 in
theorem c_Ed_round_no (l : Launch) (hl0 : l.stackTraces = false) (D : va_G) (cB cI cJ : ClassId) (t5 : Nat) (ad : Nat → Nat) (x dg q : Nat) (g : Nat → Int32) (zc pt zl n : Int) (hk : iR n) (hm : n < -2000 ∨ 2000 < n) : c_T l m_Ed_round (Cond.code m_Ed_round b_Ed_round 3 (some .int) :: gw) (rmx_ 6 90) (eX t5 ad) D ecl (tyS cB cI cJ) [.ref x, .int (iI (n))] [(x, .inr (1, [.ref dg, .int (iI (zc)), .int (iI (pt)), .int (iI (zl)), .ref q])), (dg, .inl (cB, 1200, .inl g))] xIA := by
  intro sz0
  refine vx_ofW (cc := b_Ed_round) (maxL := 3) (ret := (some .int)) (by decide) rfl ?_
  intro p e s m args below meth c s₁ B hml htab hv
  obtain ⟨rfl, hsz, hP, hK, hD0, hE⟩ := hv
  have hx := B.exec
  have hb := B.bytes
  have hr := B.returns
  have hts := atoms_spec (ws := Cond.code m_Ed_round b_Ed_round 3 (some .int) :: gw) B.pre
  have hown : s.vm.findClass R_Ed = some m.cls := findClass_of_methodNamed B.named
  have hlocks := B.notSynchronized
  subst hsz
  have hD := hD0.self (sz := s.heap.size)
  generalize hAe : va_A [(x, .inr (1, [.ref dg, .int (iI (zc)), .int (iI (pt)), .int (iI (zl)), .ref q])), (dg, .inl (cB, 1200, .inl g))] s.heap.size = A at hD hE ⊢
  have hA : ∀ q : Nat, s.heap.size ≤ q → A q := fun q h => by rw [← hAe]; exact Or.inr h
  have hS : va_S A s.heap s.heap [] := va_S.rf
  have hl := lv_entry ([.ref x, .int (iI (n))]) (n := 3) (Nat.le_of_ble_eq_true rfl)
  rw [lg_entry_eq]
  generalize (lg_sl ([.ref x, .int (iI (n))]) ++ List.replicate (3 - (lg_sl ([.ref x, .int (iI (n))])).length) Slot.unset).toArray = ls at hl ⊢
  have hl : lv_has ls 3 [(0, .ref x), (1, .int (iI (n)))] := hl
  refine lv_iload_n hx hb d_Ed_round_0 rfl (lv_at hl 1 rfl) ?_
  refine lv_sipush (v := iI 2000) hx hb d_Ed_round_1 (by decide +kernel) ?_
  refine c_fi (wc := []) (wr := [(x, .inr (1, [.ref dg, .int (iI (zc)), .int (iI (pt)), .int (iI (zl)), .ref q])), (dg, .inl (cB, 1200, .inl g))]) (va_runS (As := [.int (iI (n)), .int (iI (2000))]) (rest := []) ⟨hx, hb, hml, hown, hts⟩ (c_Ed_isBeyond l D cB cI cJ t5 ad (n) 2000 (by omega) (by omega) s.heap.size) (va_cwS 2 hts (gS tw_281 tw_282 tw_1 tw_283) rfl rfl rfl (by decide +kernel) ⟨Nat.le_of_ble_eq_true rfl, Nat.le_of_ble_eq_true rfl⟩) ⟨c_blind (eX_X t5 ad), fun U hU hW => c_pre (wc := []) (eX_X t5 ad) hE hK hP hD hS hA [] rfl (by decide) U hU hW⟩ rfl rfl hl.1 rfl (lv_room (Nat.le_of_ble_eq_true rfl)) d_Ed_round_4 ⟨Nat.le_of_ble_eq_true rfl, Nat.le_of_ble_eq_true rfl⟩) hP hD hS hA [] [0, 1] rfl rfl (by decide) (by decide) (fun r u H locs hp hP hD hS => ?_)
  obtain ⟨rfl, rfl⟩ := hp
  have hP : va_P D ecl [(x, .inr (1, [.ref dg, .int (iI (zc)), .int (iI (pt)), .int (iI (zl)), .ref q])), (dg, .inl (cB, 1200, .inl g))] H := hP
  have hD : va_D A [(x, .inr (1, [.ref dg, .int (iI (zc)), .int (iI (pt)), .int (iI (zl)), .ref q])), (dg, .inl (cB, 1200, .inl g))] := hD
  obtain ⟨zb, hzb, hzb2⟩ : ∃ zb : Int, zb = (if n < -2000 ∨ 2000 < n then 1 else 0) ∧ ((zb = 1 ∧ (n < -2000 ∨ 2000 < n)) ∨ (zb = 0 ∧ ¬ (n < -2000 ∨ 2000 < n))) := ⟨_, rfl, by split <;> simp_all⟩
  refine ed_tz (y := zb) (hzb.symm) ?_
  refine ed_if_eq (tgt := 18) hx hb d_Ed_round_7 rfl (by omega) (fun h_1 => ?_) (fun h_1 => ?_)
  · exact absurd h_1 (by omega)
  · skip
    refine ed_pc (pc' := 10) rfl ?_
    exact vx_throw0 (own := "ExactDigits") (cls := xIA) (names := xNm) (rest := []) hx hb hl0 hown (by decide +kernel) (by decide +kernel) (hts _ (List.mem_cons_of_mem _ tw_284)) (hts _ (List.mem_cons_of_mem _ tw_15)) (vx_hat (fun w h => hts w (List.mem_cons_of_mem _ (ta_IA w h))) tb_IA (eW_IA hE.2.2.2.2.2.2.2.2.2.2.2)) tg_IA hE.2.2.2.2.2.2.2.2.2.1 hE.2.2.2.2.2.2.2.2.2.2.1 hS (hl.1.trans hml.symm) d_Ed_round_10 d_Ed_round_13 d_Ed_round_14 d_Ed_round_17 (fun x h => (htab x h).elim) (Nat.le_of_ble_eq_true rfl) (Nat.le_of_ble_eq_true rfl) (Nat.le_of_ble_eq_true rfl) (Nat.le_of_ble_eq_true rfl) hlocks (fun t9 hv9 hz9 hk9 => c_xc hP hD hS hz9 hk9) hS.2.2 (Nat.le_of_ble_eq_true rfl) (Nat.le_of_ble_eq_true rfl)
set_option maxHeartbeats 4000000 in
set_option maxRecDepth 100000 in
theorem c_Ed_round (l : Launch) (D : va_G) (cB cI cJ : ClassId) (t5 : Nat) (ad : Nat → Nat) (x dg q : Nat) (g : Nat → Int32) (pt zl n : Int) (X : Nat) (hnm : nm_ok g X) (hpt : -100000000 ≤ pt ∧ pt ≤ 100000000) (hk : -2000 ≤ n ∧ n ≤ 2000) (hno : pt + n < 0 ∨ ((dl X : Nat) : Int) ≤ pt + n ∨ X / 10 ^ (dl X - 1 - (pt + n).toNat) % 10 < 5) : c_I l m_Ed_round (Cond.code m_Ed_round b_Ed_round 3 (some .int) :: gw) (rm_ 6 90) (eX t5 ad) D ecl (tyS cB cI cJ) [.ref x, .int (iI (n))] [(x, .inr (1, [.ref dg, .int (iI (((dl X : Nat) : Int))), .int (iI (pt)), .int (iI (zl)), .ref q])), (dg, .inl (cB, 1200, .inl g))] (fun r u => r = iI ((dl (rz (kfY X (pt + n))) : Nat) : Int) ∧ nm_ok g (rz (kfY X (pt + n))) ∧ u = [(x, .inr (1, [.ref dg, .int (iI (((dl (rz (kfY X (pt + n))) : Nat) : Int))), .int (iI (if kfY X (pt + n) = 0 then 0 else pt)), .int (iI (0)), .ref q])), (dg, .inl (cB, 1200, .inl g))]) 0 0 := by
  intro sz0
  refine Met.ofW (cc := b_Ed_round) (maxL := 3) (ret := (some .int)) (by decide) rfl ?_
  intro p e s m args below meth c s₁ B hml hv
  obtain ⟨rfl, hsz, hP, hK, hD0, hE⟩ := hv
  have hx := B.exec
  have hb := B.bytes
  have hr := B.returns
  have hts := atoms_spec (ws := Cond.code m_Ed_round b_Ed_round 3 (some .int) :: gw) B.pre
  have hown : s.vm.findClass R_Ed = some m.cls := findClass_of_methodNamed B.named
  have hlocks := B.notSynchronized
  subst hsz
  have hD := hD0.self (sz := s.heap.size)
  generalize hAe : va_A [(x, .inr (1, [.ref dg, .int (iI (((dl X : Nat) : Int))), .int (iI (pt)), .int (iI (zl)), .ref q])), (dg, .inl (cB, 1200, .inl g))] s.heap.size = A at hD hE ⊢
  have hA : ∀ q : Nat, s.heap.size ≤ q → A q := fun q h => by rw [← hAe]; exact Or.inr h
  have hS : va_S A s.heap s.heap [] := va_S.rf
  have hl := lv_entry ([.ref x, .int (iI (n))]) (n := 3) (Nat.le_of_ble_eq_true rfl)
  rw [lg_entry_eq]
  generalize (lg_sl ([.ref x, .int (iI (n))]) ++ List.replicate (3 - (lg_sl ([.ref x, .int (iI (n))])).length) Slot.unset).toArray = ls at hl ⊢
  have hl : lv_has ls 3 [(0, .ref x), (1, .int (iI (n)))] := hl
  have hX12 := hnm.1
  refine lv_iload_n hx hb d_Ed_round_0 rfl (lv_at hl 1 rfl) ?_
  refine lv_sipush (v := iI 2000) hx hb d_Ed_round_1 (by decide +kernel) ?_
  refine c_fi (wc := []) (wr := [(x, .inr (1, [.ref dg, .int (iI (((dl X : Nat) : Int))), .int (iI (pt)), .int (iI (zl)), .ref q])), (dg, .inl (cB, 1200, .inl g))]) (va_runS (As := [.int (iI (n)), .int (iI (2000))]) (rest := []) ⟨hx, hb, hml, hown, hts⟩ (c_Ed_isBeyond l D cB cI cJ t5 ad (n) 2000 (by omega) (by omega) s.heap.size) (va_cwS 2 hts (gS tw_281 tw_282 tw_1 tw_283) rfl rfl rfl (by decide +kernel) ⟨Nat.le_of_ble_eq_true rfl, Nat.le_of_ble_eq_true rfl⟩) ⟨c_blind (eX_X t5 ad), fun U hU hW => c_pre (wc := []) (eX_X t5 ad) hE hK hP hD hS hA [] rfl (by decide) U hU hW⟩ rfl rfl hl.1 rfl (lv_room (Nat.le_of_ble_eq_true rfl)) d_Ed_round_4 ⟨Nat.le_of_ble_eq_true rfl, Nat.le_of_ble_eq_true rfl⟩) hP hD hS hA [] [0, 1] rfl rfl (by decide) (by decide) (fun r u H locs hp hP hD hS => ?_)
  obtain ⟨rfl, rfl⟩ := hp
  have hP : va_P D ecl [(x, .inr (1, [.ref dg, .int (iI (((dl X : Nat) : Int))), .int (iI (pt)), .int (iI (zl)), .ref q])), (dg, .inl (cB, 1200, .inl g))] H := hP
  have hD : va_D A [(x, .inr (1, [.ref dg, .int (iI (((dl X : Nat) : Int))), .int (iI (pt)), .int (iI (zl)), .ref q])), (dg, .inl (cB, 1200, .inl g))] := hD
  obtain ⟨zb, hzb, hzb2⟩ : ∃ zb : Int, zb = (if n < -2000 ∨ 2000 < n then 1 else 0) ∧ ((zb = 1 ∧ (n < -2000 ∨ 2000 < n)) ∨ (zb = 0 ∧ ¬ (n < -2000 ∨ 2000 < n))) := ⟨_, rfl, by split <;> simp_all⟩
  refine ed_tz (y := zb) (hzb.symm) ?_
  refine ed_if_eq (tgt := 18) hx hb d_Ed_round_7 rfl (by omega) (fun h_1 => ?_) (fun h_1 => ?_)
  · skip
    refine ed_pc (pc' := 18) rfl ?_
    refine lv_aload_n hx hb d_Ed_round_18 rfl (lv_at hl 0 rfl) ?_
    refine va_get (D := D) (ci := 1) (v := .int (iI (pt))) (C := R_Ed) (T := T_Ed) (N := 5) hx hb hts (fun w h => List.mem_cons_of_mem _ (in_Ed w h)) hown hK hP 0 rfl rfl 2 (by decide) (hts _ (List.mem_cons_of_mem _ tw_42)) (fun _ h9 => h9) rfl d_Ed_round_19 ?_
    refine lv_iload_n hx hb d_Ed_round_22 rfl (lv_at hl 1 rfl) ?_
    refine ed_pc (pc' := 23) rfl ?_
    refine ed_iadd hx hb d_Ed_round_23 ?_
    refine lv_istore_n hx hb d_Ed_round_24 rfl hl (by decide) rfl (fun ls hl => ?_)
    have hl : lv_has ls 3 [(2, .int (iI ((pt) + (n)))), (0, .ref x), (1, .int (iI (n)))] := hl
    refine lv_iload_n hx hb d_Ed_round_25 rfl (lv_at hl 0 rfl) ?_
    refine ed_if_lt (tgt := 55) hx hb d_Ed_round_26 rfl (by omega) (fun h_2 => ?_) (fun h_2 => ?_)
    · skip
      refine ed_pc (pc' := 55) rfl ?_
      refine lv_aload_n hx hb d_Ed_round_55 rfl (lv_at hl 1 rfl) ?_
      refine lv_iload_n hx hb d_Ed_round_56 rfl (lv_at hl 0 rfl) ?_
      refine c_fv (wc := [(x, .inr (1, [.ref dg, .int (iI (((dl X : Nat) : Int))), .int (iI (pt)), .int (iI (zl)), .ref q])), (dg, .inl (cB, 1200, .inl g))]) (wr := []) (va_runV (C := "ExactDigits") (As := [.int (iI ((pt) + (n)))]) (rest := []) ⟨hx, hb, hml, hown, hts⟩ (c_Ed_keepFirst l D cB cI cJ t5 ad x dg q g pt zl (pt + n) X hnm (by omega) H.size) (cwV 1 hts (gV tw_328 tw_330 ts_14 tw_1 tw_331) rfl rfl rfl (by decide +kernel) ⟨Nat.le_of_ble_eq_true rfl, Nat.le_of_ble_eq_true rfl⟩) ⟨c_blind (eX_X t5 ad), va_recv (ci := 1) (q0 := 0) hK hP rfl rfl, fun U hU hW => c_pre (wc := [(x, .inr (1, [.ref dg, .int (iI (((dl X : Nat) : Int))), .int (iI (pt)), .int (iI (zl)), .ref q])), (dg, .inl (cB, 1200, .inl g))]) (eX_X t5 ad) hE hK hP hD hS hA [0, 1] rfl (by decide) U hU hW⟩ rfl rfl hl.1 rfl (lv_room (Nat.le_of_ble_eq_true rfl)) d_Ed_round_57 ⟨Nat.le_of_ble_eq_true rfl, Nat.le_of_ble_eq_true rfl⟩) hP hD hS hA [0, 1] [] rfl rfl (by decide) (by decide) (fun u H locs hp hP hD hS => ?_)
      obtain ⟨hn2, rfl⟩ := hp
      have hP : va_P D ecl [(x, .inr (1, [.ref dg, .int (iI (((dl (rz (kfY X (pt + n))) : Nat) : Int))), .int (iI (if kfY X (pt + n) = 0 then 0 else pt)), .int (iI (0)), .ref q])), (dg, .inl (cB, 1200, .inl g))] H := hP
      have hD : va_D A [(x, .inr (1, [.ref dg, .int (iI (((dl (rz (kfY X (pt + n))) : Nat) : Int))), .int (iI (if kfY X (pt + n) = 0 then 0 else pt)), .int (iI (0)), .ref q])), (dg, .inl (cB, 1200, .inl g))] := hD
      refine lv_aload_n hx hb d_Ed_round_60 rfl (lv_at hl 1 rfl) ?_
      refine ed_pc (pc' := 61) rfl ?_
      refine va_get (D := D) (ci := 1) (v := .int (iI (((dl (rz (kfY X (pt + n))) : Nat) : Int)))) (C := R_Ed) (T := T_Ed) (N := 5) hx hb hts (fun w h => List.mem_cons_of_mem _ (in_Ed w h)) hown hK hP 0 rfl rfl 1 (by decide) (hts _ (List.mem_cons_of_mem _ tw_41)) (fun _ h9 => h9) rfl d_Ed_round_61 ?_
      exact W.iret (v := (iI (((dl (rz (kfY X (pt + n))) : Nat) : Int)))) hx hb hr (fun t9 ht9 hW9 => ⟨⟨(iI (((dl (rz (kfY X (pt + n))) : Nat) : Int))), [(x, .inr (1, [.ref dg, .int (iI (((dl (rz (kfY X (pt + n))) : Nat) : Int))), .int (iI (if kfY X (pt + n) = 0 then 0 else pt)), .int (iI (0)), .ref q])), (dg, .inl (cB, 1200, .inl g))], rfl, ⟨rfl, hn2, rfl⟩, by rw [ht9]; exact hP, hD⟩, hS.F ht9⟩) hS.2.2 d_Ed_round_64
    · skip
      refine ed_pc (pc' := 29) rfl ?_
      refine lv_iload_n hx hb d_Ed_round_29 rfl (lv_at hl 0 rfl) ?_
      refine lv_aload_n hx hb d_Ed_round_30 rfl (lv_at hl 1 rfl) ?_
      refine va_get (D := D) (ci := 1) (v := .int (iI (((dl X : Nat) : Int)))) (C := R_Ed) (T := T_Ed) (N := 5) hx hb hts (fun w h => List.mem_cons_of_mem _ (in_Ed w h)) hown hK hP 0 rfl rfl 1 (by decide) (hts _ (List.mem_cons_of_mem _ tw_41)) (fun _ h9 => h9) rfl d_Ed_round_31 ?_
      refine ed_icmp_ge (tgt := 55) hx hb d_Ed_round_34 rfl (by omega) (by omega) (fun h_3 => ?_) (fun h_3 => ?_)
      · skip
        refine ed_pc (pc' := 55) rfl ?_
        refine ed_pc (pc' := 55) rfl ?_
        refine lv_aload_n hx hb d_Ed_round_55 rfl (lv_at hl 1 rfl) ?_
        refine lv_iload_n hx hb d_Ed_round_56 rfl (lv_at hl 0 rfl) ?_
        refine c_fv (wc := [(x, .inr (1, [.ref dg, .int (iI (((dl X : Nat) : Int))), .int (iI (pt)), .int (iI (zl)), .ref q])), (dg, .inl (cB, 1200, .inl g))]) (wr := []) (va_runV (C := "ExactDigits") (As := [.int (iI ((pt) + (n)))]) (rest := []) ⟨hx, hb, hml, hown, hts⟩ (c_Ed_keepFirst l D cB cI cJ t5 ad x dg q g pt zl (pt + n) X hnm (by omega) H.size) (cwV 1 hts (gV tw_328 tw_330 ts_14 tw_1 tw_331) rfl rfl rfl (by decide +kernel) ⟨Nat.le_of_ble_eq_true rfl, Nat.le_of_ble_eq_true rfl⟩) ⟨c_blind (eX_X t5 ad), va_recv (ci := 1) (q0 := 0) hK hP rfl rfl, fun U hU hW => c_pre (wc := [(x, .inr (1, [.ref dg, .int (iI (((dl X : Nat) : Int))), .int (iI (pt)), .int (iI (zl)), .ref q])), (dg, .inl (cB, 1200, .inl g))]) (eX_X t5 ad) hE hK hP hD hS hA [0, 1] rfl (by decide) U hU hW⟩ rfl rfl hl.1 rfl (lv_room (Nat.le_of_ble_eq_true rfl)) d_Ed_round_57 ⟨Nat.le_of_ble_eq_true rfl, Nat.le_of_ble_eq_true rfl⟩) hP hD hS hA [0, 1] [] rfl rfl (by decide) (by decide) (fun u H locs hp hP hD hS => ?_)
        obtain ⟨hn2, rfl⟩ := hp
        have hP : va_P D ecl [(x, .inr (1, [.ref dg, .int (iI (((dl (rz (kfY X (pt + n))) : Nat) : Int))), .int (iI (if kfY X (pt + n) = 0 then 0 else pt)), .int (iI (0)), .ref q])), (dg, .inl (cB, 1200, .inl g))] H := hP
        have hD : va_D A [(x, .inr (1, [.ref dg, .int (iI (((dl (rz (kfY X (pt + n))) : Nat) : Int))), .int (iI (if kfY X (pt + n) = 0 then 0 else pt)), .int (iI (0)), .ref q])), (dg, .inl (cB, 1200, .inl g))] := hD
        refine lv_aload_n hx hb d_Ed_round_60 rfl (lv_at hl 1 rfl) ?_
        refine va_get (D := D) (ci := 1) (v := .int (iI (((dl (rz (kfY X (pt + n))) : Nat) : Int)))) (C := R_Ed) (T := T_Ed) (N := 5) hx hb hts (fun w h => List.mem_cons_of_mem _ (in_Ed w h)) hown hK hP 0 rfl rfl 1 (by decide) (hts _ (List.mem_cons_of_mem _ tw_41)) (fun _ h9 => h9) rfl d_Ed_round_61 ?_
        exact W.iret (v := (iI (((dl (rz (kfY X (pt + n))) : Nat) : Int)))) hx hb hr (fun t9 ht9 hW9 => ⟨⟨(iI (((dl (rz (kfY X (pt + n))) : Nat) : Int))), [(x, .inr (1, [.ref dg, .int (iI (((dl (rz (kfY X (pt + n))) : Nat) : Int))), .int (iI (if kfY X (pt + n) = 0 then 0 else pt)), .int (iI (0)), .ref q])), (dg, .inl (cB, 1200, .inl g))], rfl, ⟨rfl, hn2, rfl⟩, by rw [ht9]; exact hP, hD⟩, hS.F ht9⟩) hS.2.2 d_Ed_round_64
      · skip
        refine ed_pc (pc' := 37) rfl ?_
        obtain ⟨d, hd0⟩ : ∃ d : Nat, d = X / 10 ^ (dl X - 1 - (pt + n).toNat) % 10 := ⟨_, rfl⟩
        have hd9 : d < 10 := by rw [hd0]; exact dg_lt _ _
        rw [← hd0] at hno
        refine ed_pc (pc' := 37) rfl ?_
        refine lv_aload_n hx hb d_Ed_round_37 rfl (lv_at hl 1 rfl) ?_
        refine va_get (D := D) (ci := 1) (v := .ref dg) (C := R_Ed) (T := T_Ed) (N := 5) hx hb hts (fun w h => List.mem_cons_of_mem _ (in_Ed w h)) hown hK hP 0 rfl rfl 0 (by decide) (hts _ (List.mem_cons_of_mem _ tw_40)) (fun _ h9 => h9) rfl d_Ed_round_38 ?_
        refine lv_iload_n hx hb d_Ed_round_41 rfl (lv_at hl 0 rfl) ?_
        refine ed_bald (y := (d : Int)) hx hb hK hP 1 0 rfl rfl ((pt + n).toNat) (by omega) (by omega) (by decide) (by rw [hd0]; exact hnm.2.2 _ (by omega)) d_Ed_round_42 ?_
        refine lv_iconst (v := iI 5) hx hb d_Ed_round_43 rfl ?_
        refine ed_icmp_lt (tgt := 55) hx hb d_Ed_round_44 rfl (by omega) (by omega) (fun h_4 => ?_) (fun h_4 => ?_)
        · skip
          refine ed_pc (pc' := 55) rfl ?_
          refine lv_aload_n hx hb d_Ed_round_55 rfl (lv_at hl 1 rfl) ?_
          refine lv_iload_n hx hb d_Ed_round_56 rfl (lv_at hl 0 rfl) ?_
          refine ed_pc (pc' := 57) rfl ?_
          refine c_fv (wc := [(x, .inr (1, [.ref dg, .int (iI (((dl X : Nat) : Int))), .int (iI (pt)), .int (iI (zl)), .ref q])), (dg, .inl (cB, 1200, .inl g))]) (wr := []) (va_runV (C := "ExactDigits") (As := [.int (iI ((pt) + (n)))]) (rest := []) ⟨hx, hb, hml, hown, hts⟩ (c_Ed_keepFirst l D cB cI cJ t5 ad x dg q g pt zl (pt + n) X hnm (by omega) H.size) (cwV 1 hts (gV tw_328 tw_330 ts_14 tw_1 tw_331) rfl rfl rfl (by decide +kernel) ⟨Nat.le_of_ble_eq_true rfl, Nat.le_of_ble_eq_true rfl⟩) ⟨c_blind (eX_X t5 ad), va_recv (ci := 1) (q0 := 0) hK hP rfl rfl, fun U hU hW => c_pre (wc := [(x, .inr (1, [.ref dg, .int (iI (((dl X : Nat) : Int))), .int (iI (pt)), .int (iI (zl)), .ref q])), (dg, .inl (cB, 1200, .inl g))]) (eX_X t5 ad) hE hK hP hD hS hA [0, 1] rfl (by decide) U hU hW⟩ rfl rfl hl.1 rfl (lv_room (Nat.le_of_ble_eq_true rfl)) d_Ed_round_57 ⟨Nat.le_of_ble_eq_true rfl, Nat.le_of_ble_eq_true rfl⟩) hP hD hS hA [0, 1] [] rfl rfl (by decide) (by decide) (fun u H locs hp hP hD hS => ?_)
          obtain ⟨hn2, rfl⟩ := hp
          have hP : va_P D ecl [(x, .inr (1, [.ref dg, .int (iI (((dl (rz (kfY X (pt + n))) : Nat) : Int))), .int (iI (if kfY X (pt + n) = 0 then 0 else pt)), .int (iI (0)), .ref q])), (dg, .inl (cB, 1200, .inl g))] H := hP
          have hD : va_D A [(x, .inr (1, [.ref dg, .int (iI (((dl (rz (kfY X (pt + n))) : Nat) : Int))), .int (iI (if kfY X (pt + n) = 0 then 0 else pt)), .int (iI (0)), .ref q])), (dg, .inl (cB, 1200, .inl g))] := hD
          refine lv_aload_n hx hb d_Ed_round_60 rfl (lv_at hl 1 rfl) ?_
          refine va_get (D := D) (ci := 1) (v := .int (iI (((dl (rz (kfY X (pt + n))) : Nat) : Int)))) (C := R_Ed) (T := T_Ed) (N := 5) hx hb hts (fun w h => List.mem_cons_of_mem _ (in_Ed w h)) hown hK hP 0 rfl rfl 1 (by decide) (hts _ (List.mem_cons_of_mem _ tw_41)) (fun _ h9 => h9) rfl d_Ed_round_61 ?_
          exact W.iret (v := (iI (((dl (rz (kfY X (pt + n))) : Nat) : Int)))) hx hb hr (fun t9 ht9 hW9 => ⟨⟨(iI (((dl (rz (kfY X (pt + n))) : Nat) : Int))), [(x, .inr (1, [.ref dg, .int (iI (((dl (rz (kfY X (pt + n))) : Nat) : Int))), .int (iI (if kfY X (pt + n) = 0 then 0 else pt)), .int (iI (0)), .ref q])), (dg, .inl (cB, 1200, .inl g))], rfl, ⟨rfl, hn2, rfl⟩, by rw [ht9]; exact hP, hD⟩, hS.F ht9⟩) hS.2.2 d_Ed_round_64
        · exact absurd h_4 (by omega)
  · exact absurd h_1 (by omega)
set_option maxHeartbeats 4000000 in
set_option maxRecDepth 100000 in
theorem c_Ed_round_up (l : Launch) (D : va_G) (cB cI cJ : ClassId) (t5 : Nat) (ad : Nat → Nat) (x dg q : Nat) (g : Nat → Int32) (pt zl n : Int) (X : Nat) (hnm : nm_ok g X) (hpt : -100000000 ≤ pt ∧ pt ≤ 100000000) (hk : -2000 ≤ n ∧ n ≤ 2000) (j : Nat) (hj : pt + n = (j : Int)) (hjd : j < dl X) (h5 : 5 ≤ X / 10 ^ (dl X - 1 - j) % 10) : c_I l m_Ed_round (Cond.code m_Ed_round b_Ed_round 3 (some .int) :: gw) (rm_ 6 90) (eX t5 ad) D ecl (tyS cB cI cJ) [.ref x, .int (iI (n))] [(x, .inr (1, [.ref dg, .int (iI (((dl X : Nat) : Int))), .int (iI (pt)), .int (iI (zl)), .ref q])), (dg, .inl (cB, 1200, .inl g))] (fun r u => r = iI ((dl (rz (X / 10 ^ (dl X - j) + 1)) : Nat) : Int) ∧ ∃ g' : Nat → Int32, nm_ok g' (rz (X / 10 ^ (dl X - j) + 1)) ∧ u = [(x, .inr (1, [.ref dg, .int (iI (((dl (rz (X / 10 ^ (dl X - j) + 1)) : Nat) : Int))), .int (iI (if (X / 10 ^ (dl X - j) + 1) = 10 ^ j then pt + 1 else pt)), .int (iI (0)), .ref q])), (dg, .inl (cB, 1200, .inl g'))]) 0 0 := by
  intro sz0
  refine Met.ofW (cc := b_Ed_round) (maxL := 3) (ret := (some .int)) (by decide) rfl ?_
  intro p e s m args below meth c s₁ B hml hv
  obtain ⟨rfl, hsz, hP, hK, hD0, hE⟩ := hv
  have hx := B.exec
  have hb := B.bytes
  have hr := B.returns
  have hts := atoms_spec (ws := Cond.code m_Ed_round b_Ed_round 3 (some .int) :: gw) B.pre
  have hown : s.vm.findClass R_Ed = some m.cls := findClass_of_methodNamed B.named
  have hlocks := B.notSynchronized
  subst hsz
  have hD := hD0.self (sz := s.heap.size)
  generalize hAe : va_A [(x, .inr (1, [.ref dg, .int (iI (((dl X : Nat) : Int))), .int (iI (pt)), .int (iI (zl)), .ref q])), (dg, .inl (cB, 1200, .inl g))] s.heap.size = A at hD hE ⊢
  have hA : ∀ q : Nat, s.heap.size ≤ q → A q := fun q h => by rw [← hAe]; exact Or.inr h
  have hS : va_S A s.heap s.heap [] := va_S.rf
  have hl := lv_entry ([.ref x, .int (iI (n))]) (n := 3) (Nat.le_of_ble_eq_true rfl)
  rw [lg_entry_eq]
  generalize (lg_sl ([.ref x, .int (iI (n))]) ++ List.replicate (3 - (lg_sl ([.ref x, .int (iI (n))])).length) Slot.unset).toArray = ls at hl ⊢
  have hl : lv_has ls 3 [(0, .ref x), (1, .int (iI (n)))] := hl
  have hX12 := hnm.1
  refine lv_iload_n hx hb d_Ed_round_0 rfl (lv_at hl 1 rfl) ?_
  refine lv_sipush (v := iI 2000) hx hb d_Ed_round_1 (by decide +kernel) ?_
  refine c_fi (wc := []) (wr := [(x, .inr (1, [.ref dg, .int (iI (((dl X : Nat) : Int))), .int (iI (pt)), .int (iI (zl)), .ref q])), (dg, .inl (cB, 1200, .inl g))]) (va_runS (As := [.int (iI (n)), .int (iI (2000))]) (rest := []) ⟨hx, hb, hml, hown, hts⟩ (c_Ed_isBeyond l D cB cI cJ t5 ad (n) 2000 (by omega) (by omega) s.heap.size) (va_cwS 2 hts (gS tw_281 tw_282 tw_1 tw_283) rfl rfl rfl (by decide +kernel) ⟨Nat.le_of_ble_eq_true rfl, Nat.le_of_ble_eq_true rfl⟩) ⟨c_blind (eX_X t5 ad), fun U hU hW => c_pre (wc := []) (eX_X t5 ad) hE hK hP hD hS hA [] rfl (by decide) U hU hW⟩ rfl rfl hl.1 rfl (lv_room (Nat.le_of_ble_eq_true rfl)) d_Ed_round_4 ⟨Nat.le_of_ble_eq_true rfl, Nat.le_of_ble_eq_true rfl⟩) hP hD hS hA [] [0, 1] rfl rfl (by decide) (by decide) (fun r u H locs hp hP hD hS => ?_)
  obtain ⟨rfl, rfl⟩ := hp
  have hP : va_P D ecl [(x, .inr (1, [.ref dg, .int (iI (((dl X : Nat) : Int))), .int (iI (pt)), .int (iI (zl)), .ref q])), (dg, .inl (cB, 1200, .inl g))] H := hP
  have hD : va_D A [(x, .inr (1, [.ref dg, .int (iI (((dl X : Nat) : Int))), .int (iI (pt)), .int (iI (zl)), .ref q])), (dg, .inl (cB, 1200, .inl g))] := hD
  obtain ⟨zb, hzb, hzb2⟩ : ∃ zb : Int, zb = (if n < -2000 ∨ 2000 < n then 1 else 0) ∧ ((zb = 1 ∧ (n < -2000 ∨ 2000 < n)) ∨ (zb = 0 ∧ ¬ (n < -2000 ∨ 2000 < n))) := ⟨_, rfl, by split <;> simp_all⟩
  refine ed_tz (y := zb) (hzb.symm) ?_
  refine ed_if_eq (tgt := 18) hx hb d_Ed_round_7 rfl (by omega) (fun h_1 => ?_) (fun h_1 => ?_)
  · skip
    refine ed_pc (pc' := 18) rfl ?_
    refine lv_aload_n hx hb d_Ed_round_18 rfl (lv_at hl 0 rfl) ?_
    refine va_get (D := D) (ci := 1) (v := .int (iI (pt))) (C := R_Ed) (T := T_Ed) (N := 5) hx hb hts (fun w h => List.mem_cons_of_mem _ (in_Ed w h)) hown hK hP 0 rfl rfl 2 (by decide) (hts _ (List.mem_cons_of_mem _ tw_42)) (fun _ h9 => h9) rfl d_Ed_round_19 ?_
    refine lv_iload_n hx hb d_Ed_round_22 rfl (lv_at hl 1 rfl) ?_
    refine ed_pc (pc' := 23) rfl ?_
    refine ed_iadd hx hb d_Ed_round_23 ?_
    refine ed_tz (y := (j : Int)) (hj) ?_
    refine lv_istore_n hx hb d_Ed_round_24 rfl hl (by decide) rfl (fun ls hl => ?_)
    have hl : lv_has ls 3 [(2, .int (iI ((j : Int)))), (0, .ref x), (1, .int (iI (n)))] := hl
    refine lv_iload_n hx hb d_Ed_round_25 rfl (lv_at hl 0 rfl) ?_
    refine ed_if_lt (tgt := 55) hx hb d_Ed_round_26 rfl (by omega) (fun h_2 => ?_) (fun h_2 => ?_)
    · exact absurd h_2 (by omega)
    · skip
      refine ed_pc (pc' := 29) rfl ?_
      refine lv_iload_n hx hb d_Ed_round_29 rfl (lv_at hl 0 rfl) ?_
      refine lv_aload_n hx hb d_Ed_round_30 rfl (lv_at hl 1 rfl) ?_
      refine va_get (D := D) (ci := 1) (v := .int (iI (((dl X : Nat) : Int)))) (C := R_Ed) (T := T_Ed) (N := 5) hx hb hts (fun w h => List.mem_cons_of_mem _ (in_Ed w h)) hown hK hP 0 rfl rfl 1 (by decide) (hts _ (List.mem_cons_of_mem _ tw_41)) (fun _ h9 => h9) rfl d_Ed_round_31 ?_
      refine ed_icmp_ge (tgt := 55) hx hb d_Ed_round_34 rfl (by omega) (by omega) (fun h_3 => ?_) (fun h_3 => ?_)
      · exact absurd h_3 (by omega)
      · skip
        refine ed_pc (pc' := 37) rfl ?_
        obtain ⟨d, hd0⟩ : ∃ d : Nat, d = X / 10 ^ (dl X - 1 - j) % 10 := ⟨_, rfl⟩
        have hd9 : d < 10 := by rw [hd0]; exact dg_lt _ _
        rw [← hd0] at h5
        refine ed_pc (pc' := 37) rfl ?_
        refine lv_aload_n hx hb d_Ed_round_37 rfl (lv_at hl 1 rfl) ?_
        refine va_get (D := D) (ci := 1) (v := .ref dg) (C := R_Ed) (T := T_Ed) (N := 5) hx hb hts (fun w h => List.mem_cons_of_mem _ (in_Ed w h)) hown hK hP 0 rfl rfl 0 (by decide) (hts _ (List.mem_cons_of_mem _ tw_40)) (fun _ h9 => h9) rfl d_Ed_round_38 ?_
        refine lv_iload_n hx hb d_Ed_round_41 rfl (lv_at hl 0 rfl) ?_
        refine ed_bald (y := (d : Int)) hx hb hK hP 1 0 rfl rfl (j) (by omega) (by omega) (by decide) (by rw [hd0]; exact hnm.2.2 j hjd) d_Ed_round_42 ?_
        refine lv_iconst (v := iI 5) hx hb d_Ed_round_43 rfl ?_
        refine ed_icmp_lt (tgt := 55) hx hb d_Ed_round_44 rfl (by omega) (by omega) (fun h_4 => ?_) (fun h_4 => ?_)
        · exact absurd h_4 (by omega)
        · skip
          refine ed_pc (pc' := 47) rfl ?_
          refine lv_aload_n hx hb d_Ed_round_47 rfl (lv_at hl 1 rfl) ?_
          refine lv_iload_n hx hb d_Ed_round_48 rfl (lv_at hl 0 rfl) ?_
          refine ed_pc (pc' := 49) rfl ?_
          refine c_fv (wc := [(x, .inr (1, [.ref dg, .int (iI (((dl X : Nat) : Int))), .int (iI (pt)), .int (iI (zl)), .ref q])), (dg, .inl (cB, 1200, .inl g))]) (wr := []) (va_runV (C := "ExactDigits") (As := [.int (iI ((j : Int)))]) (rest := []) ⟨hx, hb, hml, hown, hts⟩ (c_Ed_keepFirstAndOneMore l D cB cI cJ t5 ad x dg q g pt zl X j hnm (by omega) H.size) (cwV 1 hts (gV tw_324 tw_326 ts_13 tw_1 tw_327) rfl rfl rfl (by decide +kernel) ⟨Nat.le_of_ble_eq_true rfl, Nat.le_of_ble_eq_true rfl⟩) ⟨c_blind (eX_X t5 ad), va_recv (ci := 1) (q0 := 0) hK hP rfl rfl, fun U hU hW => c_pre (wc := [(x, .inr (1, [.ref dg, .int (iI (((dl X : Nat) : Int))), .int (iI (pt)), .int (iI (zl)), .ref q])), (dg, .inl (cB, 1200, .inl g))]) (eX_X t5 ad) hE hK hP hD hS hA [0, 1] rfl (by decide) U hU hW⟩ rfl rfl hl.1 rfl (lv_room (Nat.le_of_ble_eq_true rfl)) d_Ed_round_49 ⟨Nat.le_of_ble_eq_true rfl, Nat.le_of_ble_eq_true rfl⟩) hP hD hS hA [0, 1] [] rfl rfl (by decide) (by decide) (fun u H locs hp hP hD hS => ?_)
          obtain ⟨g2, hn2, rfl⟩ := hp
          have hP : va_P D ecl [(x, .inr (1, [.ref dg, .int (iI (((dl (rz (X / 10 ^ (dl X - j) + 1)) : Nat) : Int))), .int (iI (if (X / 10 ^ (dl X - j) + 1) = 10 ^ j then pt + 1 else pt)), .int (iI (0)), .ref q])), (dg, .inl (cB, 1200, .inl g2))] H := hP
          have hD : va_D A [(x, .inr (1, [.ref dg, .int (iI (((dl (rz (X / 10 ^ (dl X - j) + 1)) : Nat) : Int))), .int (iI (if (X / 10 ^ (dl X - j) + 1) = 10 ^ j then pt + 1 else pt)), .int (iI (0)), .ref q])), (dg, .inl (cB, 1200, .inl g2))] := hD
          refine lv_goto (tgt := 60) hx hb d_Ed_round_52 rfl ?_
          refine lv_aload_n hx hb d_Ed_round_60 rfl (lv_at hl 1 rfl) ?_
          refine va_get (D := D) (ci := 1) (v := .int (iI (((dl (rz (X / 10 ^ (dl X - j) + 1)) : Nat) : Int)))) (C := R_Ed) (T := T_Ed) (N := 5) hx hb hts (fun w h => List.mem_cons_of_mem _ (in_Ed w h)) hown hK hP 0 rfl rfl 1 (by decide) (hts _ (List.mem_cons_of_mem _ tw_41)) (fun _ h9 => h9) rfl d_Ed_round_61 ?_
          exact W.iret (v := (iI (((dl (rz (X / 10 ^ (dl X - j) + 1)) : Nat) : Int)))) hx hb hr (fun t9 ht9 hW9 => ⟨⟨(iI (((dl (rz (X / 10 ^ (dl X - j) + 1)) : Nat) : Int))), [(x, .inr (1, [.ref dg, .int (iI (((dl (rz (X / 10 ^ (dl X - j) + 1)) : Nat) : Int))), .int (iI (if (X / 10 ^ (dl X - j) + 1) = 10 ^ j then pt + 1 else pt)), .int (iI (0)), .ref q])), (dg, .inl (cB, 1200, .inl g2))], rfl, ⟨rfl, g2, hn2, rfl⟩, by rw [ht9]; exact hP, hD⟩, hS.F ht9⟩) hS.2.2 d_Ed_round_64
  · exact absurd h_1 (by omega)
end
section
theorem sh_room {X : Nat} {k : Int} (h : dl X ≤ 1200) (hk : -2200 ≤ k ∧ k ≤ 2200) : X * tw2 k < 1000000000 ^ 306 := by
  have h1 : X < 10 ^ 1200 := Nat.lt_of_lt_of_le (dl_lt X) (p10_le h)
  have h2 : tw2 k ≤ 10 ^ 1540 := by
    unfold tw2 tw2p
    rcases Int.le_total 0 k with z | z
    · have e : (-k).toNat = 0 := by omega
      rw [e, Nat.pow_zero, Nat.mul_one]
      refine Nat.le_trans (Nat.pow_le_pow_right (by decide) (show k.toNat ≤ 10 * 220 by omega)) ?_
      exact Nat.le_trans (p2_4 220) (p10_le (by decide))
    · have e : k.toNat = 0 := by omega
      rw [e, Nat.pow_zero, Nat.one_mul]
      refine Nat.le_trans (Nat.pow_le_pow_right (by decide) (show (-k).toNat ≤ 10 * 220 by omega)) ?_
      exact p5_7 220
  have h3 : X * tw2 k < 10 ^ 1200 * 10 ^ 1540 := Nat.lt_of_lt_of_le (Nat.mul_lt_mul_of_pos_right h1 (tw2_pos k)) (Nat.mul_le_mul_left _ h2)
  rw [← Nat.pow_add] at h3
  rw [pB_10]
  exact Nat.lt_of_lt_of_le h3 (p10_le (by decide))
set_option maxHeartbeats 4000000 in
set_option maxRecDepth 100000 in
theorem c_Ed_put (l : Launch) (D : va_G) (cB cI cJ : ClassId) (t5 : Nat) (ad : Nat → Nat) (x dg q : Nat) (g : Nat → Int32) (pt zl k d : Int) (X i : Nat) (hnm : nm_ok g X) (hpt : -100000000 ≤ pt ∧ pt ≤ 100000000) (hk : -400 ≤ k ∧ k ≤ 400) (hd : 0 ≤ d ∧ d ≤ 9) (hzl : zl = 0) (hi : (X = 0 ∧ i = 0) ∨ (¬ X = 0 ∧ pt + k = (i : Int) ∧ dl X ≤ i ∧ i < 1200)) : c_I l m_Ed_put (Cond.code m_Ed_put b_Ed_put 4 (some .int) :: gw) (rm_ 6 90) (eX t5 ad) D ecl (tyS cB cI cJ) [.ref x, .int (iI (k)), .int (iI (d))] [(x, .inr (1, [.ref dg, .int (iI (((dl X : Nat) : Int))), .int (iI (pt)), .int (iI (zl)), .ref q])), (dg, .inl (cB, 1200, .inl g))] (fun r u => ∃ (g' : Nat → Int32) (X' : Nat) (pt' : Int), r = iI ((dl X' : Nat) : Int) ∧ nm_ok g' X' ∧ ((d = 0 ∧ X' = X ∧ pt' = pt) ∨ (0 < d ∧ X' = apX X i d.toNat ∧ pt' = if X = 0 then -k else pt)) ∧ u = [(x, .inr (1, [.ref dg, .int (iI (((dl X' : Nat) : Int))), .int (iI (pt')), .int (iI (zl)), .ref q])), (dg, .inl (cB, 1200, .inl g'))]) 0 0 := by
  intro sz0
  refine Met.ofW (cc := b_Ed_put) (maxL := 4) (ret := (some .int)) (by decide) rfl ?_
  intro p e s m args below meth c s₁ B hml hv
  obtain ⟨rfl, hsz, hP, hK, hD0, hE⟩ := hv
  have hx := B.exec
  have hb := B.bytes
  have hr := B.returns
  have hts := atoms_spec (ws := Cond.code m_Ed_put b_Ed_put 4 (some .int) :: gw) B.pre
  have hown : s.vm.findClass R_Ed = some m.cls := findClass_of_methodNamed B.named
  have hlocks := B.notSynchronized
  subst hsz
  have hD := hD0.self (sz := s.heap.size)
  generalize hAe : va_A [(x, .inr (1, [.ref dg, .int (iI (((dl X : Nat) : Int))), .int (iI (pt)), .int (iI (zl)), .ref q])), (dg, .inl (cB, 1200, .inl g))] s.heap.size = A at hD hE ⊢
  have hA : ∀ q : Nat, s.heap.size ≤ q → A q := fun q h => by rw [← hAe]; exact Or.inr h
  have hS : va_S A s.heap s.heap [] := va_S.rf
  have hl := lv_entry ([.ref x, .int (iI (k)), .int (iI (d))]) (n := 4) (Nat.le_of_ble_eq_true rfl)
  rw [lg_entry_eq]
  generalize (lg_sl ([.ref x, .int (iI (k)), .int (iI (d))]) ++ List.replicate (4 - (lg_sl ([.ref x, .int (iI (k)), .int (iI (d))])).length) Slot.unset).toArray = ls at hl ⊢
  have hl : lv_has ls 4 [(0, .ref x), (1, .int (iI (k))), (2, .int (iI (d)))] := hl
  have hX12 := hnm.1
  have hd0 : dl X = 0 ↔ X = 0 := ⟨fun z => dl_eq0 z, fun z => by rw [z, dl_0]⟩
  refine lv_iload_n hx hb d_Ed_put_0 rfl (lv_at hl 2 rfl) ?_
  refine ed_if_lt (tgt := 27) hx hb d_Ed_put_1 rfl (by omega) (fun h_1 => ?_) (fun h_1 => ?_)
  · exact absurd h_1 (by omega)
  · skip
    refine ed_pc (pc' := 4) rfl ?_
    refine lv_iload_n hx hb d_Ed_put_4 rfl (lv_at hl 2 rfl) ?_
    refine lv_bipush (v := iI 9) hx hb d_Ed_put_5 (by decide +kernel) ?_
    refine ed_icmp_gt (tgt := 27) hx hb d_Ed_put_7 rfl (by omega) (by omega) (fun h_2 => ?_) (fun h_2 => ?_)
    · exact absurd h_2 (by omega)
    · skip
      refine ed_pc (pc' := 10) rfl ?_
      refine lv_iload_n hx hb d_Ed_put_10 rfl (lv_at hl 1 rfl) ?_
      refine lv_sipush (v := iI 400) hx hb d_Ed_put_11 (by decide +kernel) ?_
      refine ed_pc (pc' := 14) rfl ?_
      refine c_fi (wc := []) (wr := [(x, .inr (1, [.ref dg, .int (iI (((dl X : Nat) : Int))), .int (iI (pt)), .int (iI (zl)), .ref q])), (dg, .inl (cB, 1200, .inl g))]) (va_runS (As := [.int (iI (k)), .int (iI (400))]) (rest := []) ⟨hx, hb, hml, hown, hts⟩ (c_Ed_isBeyond l D cB cI cJ t5 ad (k) 400 (by omega) (by omega) s.heap.size) (va_cwS 2 hts (gS tw_281 tw_282 tw_1 tw_283) rfl rfl rfl (by decide +kernel) ⟨Nat.le_of_ble_eq_true rfl, Nat.le_of_ble_eq_true rfl⟩) ⟨c_blind (eX_X t5 ad), fun U hU hW => c_pre (wc := []) (eX_X t5 ad) hE hK hP hD hS hA [] rfl (by decide) U hU hW⟩ rfl rfl hl.1 rfl (lv_room (Nat.le_of_ble_eq_true rfl)) d_Ed_put_14 ⟨Nat.le_of_ble_eq_true rfl, Nat.le_of_ble_eq_true rfl⟩) hP hD hS hA [] [0, 1] rfl rfl (by decide) (by decide) (fun r u H locs hp hP hD hS => ?_)
      obtain ⟨rfl, rfl⟩ := hp
      have hP : va_P D ecl [(x, .inr (1, [.ref dg, .int (iI (((dl X : Nat) : Int))), .int (iI (pt)), .int (iI (zl)), .ref q])), (dg, .inl (cB, 1200, .inl g))] H := hP
      have hD : va_D A [(x, .inr (1, [.ref dg, .int (iI (((dl X : Nat) : Int))), .int (iI (pt)), .int (iI (zl)), .ref q])), (dg, .inl (cB, 1200, .inl g))] := hD
      obtain ⟨zb, hzb, hzb2⟩ : ∃ zb : Int, zb = (if k < -400 ∨ 400 < k then 1 else 0) ∧ ((zb = 1 ∧ (k < -400 ∨ 400 < k)) ∨ (zb = 0 ∧ ¬ (k < -400 ∨ 400 < k))) := ⟨_, rfl, by split <;> simp_all⟩
      refine ed_tz (y := zb) (hzb.symm) ?_
      refine ed_if_ne (tgt := 27) hx hb d_Ed_put_17 rfl (by omega) (fun h_3 => ?_) (fun h_3 => ?_)
      · exact absurd h_3 (by omega)
      · skip
        refine ed_pc (pc' := 20) rfl ?_
        refine lv_aload_n hx hb d_Ed_put_20 rfl (lv_at hl 0 rfl) ?_
        refine va_get (D := D) (ci := 1) (v := .int (iI (zl))) (C := R_Ed) (T := T_Ed) (N := 5) hx hb hts (fun w h => List.mem_cons_of_mem _ (in_Ed w h)) hown hK hP 0 rfl rfl 3 (by decide) (hts _ (List.mem_cons_of_mem _ tw_43)) (fun _ h9 => h9) rfl d_Ed_put_21 ?_
        refine ed_if_eq (tgt := 35) hx hb d_Ed_put_24 rfl (by omega) (fun h_4 => ?_) (fun h_4 => ?_)
        · skip
          refine ed_pc (pc' := 35) rfl ?_
          refine lv_aload_n hx hb d_Ed_put_35 rfl (lv_at hl 0 rfl) ?_
          refine va_get (D := D) (ci := 1) (v := .int (iI (((dl X : Nat) : Int)))) (C := R_Ed) (T := T_Ed) (N := 5) hx hb hts (fun w h => List.mem_cons_of_mem _ (in_Ed w h)) hown hK hP 0 rfl rfl 1 (by decide) (hts _ (List.mem_cons_of_mem _ tw_41)) (fun _ h9 => h9) rfl d_Ed_put_36 ?_
          refine ed_if_ne (tgt := 46) hx hb d_Ed_put_39 rfl (by omega) (fun h_5 => ?_) (fun h_5 => ?_)
          · skip
            refine ed_pc (pc' := 46) rfl ?_
            refine ed_pc (pc' := 46) rfl ?_
            refine lv_aload_n hx hb d_Ed_put_46 rfl (lv_at hl 0 rfl) ?_
            refine va_get (D := D) (ci := 1) (v := .int (iI (pt))) (C := R_Ed) (T := T_Ed) (N := 5) hx hb hts (fun w h => List.mem_cons_of_mem _ (in_Ed w h)) hown hK hP 0 rfl rfl 2 (by decide) (hts _ (List.mem_cons_of_mem _ tw_42)) (fun _ h9 => h9) rfl d_Ed_put_47 ?_
            refine lv_iload_n hx hb d_Ed_put_50 rfl (lv_at hl 1 rfl) ?_
            refine ed_iadd hx hb d_Ed_put_51 ?_
            refine ed_tz (y := (i : Int)) (by omega) ?_
            refine lv_istore_n hx hb d_Ed_put_52 rfl hl (by decide) rfl (fun ls hl => ?_)
            have hl : lv_has ls 4 [(3, .int (iI ((i : Int)))), (0, .ref x), (1, .int (iI (k))), (2, .int (iI (d)))] := hl
            refine lv_iload_n hx hb d_Ed_put_53 rfl (lv_at hl 0 rfl) ?_
            refine lv_aload_n hx hb d_Ed_put_54 rfl (lv_at hl 1 rfl) ?_
            refine va_get (D := D) (ci := 1) (v := .int (iI (((dl X : Nat) : Int)))) (C := R_Ed) (T := T_Ed) (N := 5) hx hb hts (fun w h => List.mem_cons_of_mem _ (in_Ed w h)) hown hK hP 0 rfl rfl 1 (by decide) (hts _ (List.mem_cons_of_mem _ tw_41)) (fun _ h9 => h9) rfl d_Ed_put_55 ?_
            refine ed_pc (pc' := 58) rfl ?_
            refine ed_icmp_lt (tgt := 68) hx hb d_Ed_put_58 rfl (by omega) (by omega) (fun h_6 => ?_) (fun h_6 => ?_)
            · exact absurd h_6 (by omega)
            · skip
              refine ed_pc (pc' := 61) rfl ?_
              refine lv_iload_n hx hb d_Ed_put_61 rfl (lv_at hl 0 rfl) ?_
              refine lv_sipush (v := iI 1200) hx hb d_Ed_put_62 (by decide +kernel) ?_
              refine ed_icmp_lt (tgt := 76) hx hb d_Ed_put_65 rfl (by omega) (by omega) (fun h_7 => ?_) (fun h_7 => ?_)
              · skip
                refine ed_pc (pc' := 76) rfl ?_
                refine lv_iload_n hx hb d_Ed_put_76 rfl (lv_at hl 3 rfl) ?_
                refine ed_if_eq (tgt := 87) hx hb d_Ed_put_77 rfl (by omega) (fun h_8 => ?_) (fun h_8 => ?_)
                · skip
                  refine ed_pc (pc' := 87) rfl ?_
                  refine lv_aload_n hx hb d_Ed_put_87 rfl (lv_at hl 1 rfl) ?_
                  refine va_get (D := D) (ci := 1) (v := .int (iI (((dl X : Nat) : Int)))) (C := R_Ed) (T := T_Ed) (N := 5) hx hb hts (fun w h => List.mem_cons_of_mem _ (in_Ed w h)) hown hK hP 0 rfl rfl 1 (by decide) (hts _ (List.mem_cons_of_mem _ tw_41)) (fun _ h9 => h9) rfl d_Ed_put_88 ?_
                  exact W.iret (v := (iI (((dl X : Nat) : Int)))) hx hb hr (fun t9 ht9 hW9 => ⟨⟨(iI (((dl X : Nat) : Int))), [(x, .inr (1, [.ref dg, .int (iI (((dl X : Nat) : Int))), .int (iI (pt)), .int (iI (zl)), .ref q])), (dg, .inl (cB, 1200, .inl g))], rfl, ⟨g, _, _, rfl, hnm, Or.inl ⟨by omega, rfl, rfl⟩, rfl⟩, by rw [ht9]; exact hP, hD⟩, hS.F ht9⟩) hS.2.2 d_Ed_put_91
                · skip
                  refine ed_pc (pc' := 80) rfl ?_
                  refine lv_aload_n hx hb d_Ed_put_80 rfl (lv_at hl 1 rfl) ?_
                  refine lv_iload_n hx hb d_Ed_put_81 rfl (lv_at hl 0 rfl) ?_
                  refine ed_pc (pc' := 82) rfl ?_
                  refine lv_iload_n hx hb d_Ed_put_82 rfl (lv_at hl 2 rfl) ?_
                  refine lv_iload_n hx hb d_Ed_put_83 rfl (lv_at hl 3 rfl) ?_
                  refine ed_tz (y := ((d.toNat : Nat) : Int)) (by omega) ?_
                  refine c_fv (wc := [(x, .inr (1, [.ref dg, .int (iI (((dl X : Nat) : Int))), .int (iI (pt)), .int (iI (zl)), .ref q])), (dg, .inl (cB, 1200, .inl g))]) (wr := []) (va_runV (C := "ExactDigits") (As := [.int (iI ((i : Int))), .int (iI (k)), .int (iI (((d.toNat : Nat) : Int)))]) (rest := []) ⟨hx, hb, hml, hown, hts⟩ (c_Ed_append l D cB cI cJ t5 ad x dg q g pt zl k X i d.toNat hnm (by omega) (by omega) (by omega) (by omega) (by omega) H.size) (cwV 3 hts (gV tw_299 tw_301 ts_12 tw_1 tw_302) rfl rfl rfl (by decide +kernel) ⟨Nat.le_of_ble_eq_true rfl, Nat.le_of_ble_eq_true rfl⟩) ⟨c_blind (eX_X t5 ad), va_recv (ci := 1) (q0 := 0) hK hP rfl rfl, fun U hU hW => c_pre (wc := [(x, .inr (1, [.ref dg, .int (iI (((dl X : Nat) : Int))), .int (iI (pt)), .int (iI (zl)), .ref q])), (dg, .inl (cB, 1200, .inl g))]) (eX_X t5 ad) hE hK hP hD hS hA [0, 1] rfl (by decide) U hU hW⟩ rfl rfl hl.1 rfl (lv_room (Nat.le_of_ble_eq_true rfl)) d_Ed_put_84 ⟨Nat.le_of_ble_eq_true rfl, Nat.le_of_ble_eq_true rfl⟩) hP hD hS hA [0, 1] [] rfl rfl (by decide) (by decide) (fun u H locs hp hP hD hS => ?_)
                  obtain ⟨g2, hn2, rfl⟩ := hp
                  have hP : va_P D ecl [(x, .inr (1, [.ref dg, .int (iI (((dl (apX X i d.toNat) : Nat) : Int))), .int (iI (if X = 0 then -k else pt)), .int (iI (zl)), .ref q])), (dg, .inl (cB, 1200, .inl g2))] H := hP
                  have hD : va_D A [(x, .inr (1, [.ref dg, .int (iI (((dl (apX X i d.toNat) : Nat) : Int))), .int (iI (if X = 0 then -k else pt)), .int (iI (zl)), .ref q])), (dg, .inl (cB, 1200, .inl g2))] := hD
                  refine lv_aload_n hx hb d_Ed_put_87 rfl (lv_at hl 1 rfl) ?_
                  refine va_get (D := D) (ci := 1) (v := .int (iI (((dl (apX X i d.toNat) : Nat) : Int)))) (C := R_Ed) (T := T_Ed) (N := 5) hx hb hts (fun w h => List.mem_cons_of_mem _ (in_Ed w h)) hown hK hP 0 rfl rfl 1 (by decide) (hts _ (List.mem_cons_of_mem _ tw_41)) (fun _ h9 => h9) rfl d_Ed_put_88 ?_
                  exact W.iret (v := (iI (((dl (apX X i d.toNat) : Nat) : Int)))) hx hb hr (fun t9 ht9 hW9 => ⟨⟨(iI (((dl (apX X i d.toNat) : Nat) : Int))), [(x, .inr (1, [.ref dg, .int (iI (((dl (apX X i d.toNat) : Nat) : Int))), .int (iI (if X = 0 then -k else pt)), .int (iI (zl)), .ref q])), (dg, .inl (cB, 1200, .inl g2))], rfl, ⟨g2, _, _, rfl, hn2, Or.inr ⟨by omega, rfl, rfl⟩, rfl⟩, by rw [ht9]; exact hP, hD⟩, hS.F ht9⟩) hS.2.2 d_Ed_put_91
              · exact absurd h_7 (by omega)
          · skip
            refine ed_pc (pc' := 42) rfl ?_
            refine ed_pc (pc' := 42) rfl ?_
            refine lv_iconst (v := iI 0) hx hb d_Ed_put_42 rfl ?_
            refine lv_goto (tgt := 52) hx hb d_Ed_put_43 rfl ?_
            refine ed_tz (y := (i : Int)) (by omega) ?_
            refine lv_istore_n hx hb d_Ed_put_52 rfl hl (by decide) rfl (fun ls hl => ?_)
            have hl : lv_has ls 4 [(3, .int (iI ((i : Int)))), (0, .ref x), (1, .int (iI (k))), (2, .int (iI (d)))] := hl
            refine lv_iload_n hx hb d_Ed_put_53 rfl (lv_at hl 0 rfl) ?_
            refine lv_aload_n hx hb d_Ed_put_54 rfl (lv_at hl 1 rfl) ?_
            refine va_get (D := D) (ci := 1) (v := .int (iI (((dl X : Nat) : Int)))) (C := R_Ed) (T := T_Ed) (N := 5) hx hb hts (fun w h => List.mem_cons_of_mem _ (in_Ed w h)) hown hK hP 0 rfl rfl 1 (by decide) (hts _ (List.mem_cons_of_mem _ tw_41)) (fun _ h9 => h9) rfl d_Ed_put_55 ?_
            refine ed_icmp_lt (tgt := 68) hx hb d_Ed_put_58 rfl (by omega) (by omega) (fun h_9 => ?_) (fun h_9 => ?_)
            · exact absurd h_9 (by omega)
            · skip
              refine ed_pc (pc' := 61) rfl ?_
              refine lv_iload_n hx hb d_Ed_put_61 rfl (lv_at hl 0 rfl) ?_
              refine ed_pc (pc' := 62) rfl ?_
              refine lv_sipush (v := iI 1200) hx hb d_Ed_put_62 (by decide +kernel) ?_
              refine ed_icmp_lt (tgt := 76) hx hb d_Ed_put_65 rfl (by omega) (by omega) (fun h_10 => ?_) (fun h_10 => ?_)
              · skip
                refine ed_pc (pc' := 76) rfl ?_
                refine lv_iload_n hx hb d_Ed_put_76 rfl (lv_at hl 3 rfl) ?_
                refine ed_if_eq (tgt := 87) hx hb d_Ed_put_77 rfl (by omega) (fun h_11 => ?_) (fun h_11 => ?_)
                · skip
                  refine ed_pc (pc' := 87) rfl ?_
                  refine lv_aload_n hx hb d_Ed_put_87 rfl (lv_at hl 1 rfl) ?_
                  refine va_get (D := D) (ci := 1) (v := .int (iI (((dl X : Nat) : Int)))) (C := R_Ed) (T := T_Ed) (N := 5) hx hb hts (fun w h => List.mem_cons_of_mem _ (in_Ed w h)) hown hK hP 0 rfl rfl 1 (by decide) (hts _ (List.mem_cons_of_mem _ tw_41)) (fun _ h9 => h9) rfl d_Ed_put_88 ?_
                  exact W.iret (v := (iI (((dl X : Nat) : Int)))) hx hb hr (fun t9 ht9 hW9 => ⟨⟨(iI (((dl X : Nat) : Int))), [(x, .inr (1, [.ref dg, .int (iI (((dl X : Nat) : Int))), .int (iI (pt)), .int (iI (zl)), .ref q])), (dg, .inl (cB, 1200, .inl g))], rfl, ⟨g, _, _, rfl, hnm, Or.inl ⟨by omega, rfl, rfl⟩, rfl⟩, by rw [ht9]; exact hP, hD⟩, hS.F ht9⟩) hS.2.2 d_Ed_put_91
                · skip
                  refine ed_pc (pc' := 80) rfl ?_
                  refine lv_aload_n hx hb d_Ed_put_80 rfl (lv_at hl 1 rfl) ?_
                  refine lv_iload_n hx hb d_Ed_put_81 rfl (lv_at hl 0 rfl) ?_
                  refine lv_iload_n hx hb d_Ed_put_82 rfl (lv_at hl 2 rfl) ?_
                  refine lv_iload_n hx hb d_Ed_put_83 rfl (lv_at hl 3 rfl) ?_
                  refine ed_tz (y := ((d.toNat : Nat) : Int)) (by omega) ?_
                  refine ed_pc (pc' := 84) rfl ?_
                  refine c_fv (wc := [(x, .inr (1, [.ref dg, .int (iI (((dl X : Nat) : Int))), .int (iI (pt)), .int (iI (zl)), .ref q])), (dg, .inl (cB, 1200, .inl g))]) (wr := []) (va_runV (C := "ExactDigits") (As := [.int (iI ((i : Int))), .int (iI (k)), .int (iI (((d.toNat : Nat) : Int)))]) (rest := []) ⟨hx, hb, hml, hown, hts⟩ (c_Ed_append l D cB cI cJ t5 ad x dg q g pt zl k X i d.toNat hnm (by omega) (by omega) (by omega) (by omega) (by omega) H.size) (cwV 3 hts (gV tw_299 tw_301 ts_12 tw_1 tw_302) rfl rfl rfl (by decide +kernel) ⟨Nat.le_of_ble_eq_true rfl, Nat.le_of_ble_eq_true rfl⟩) ⟨c_blind (eX_X t5 ad), va_recv (ci := 1) (q0 := 0) hK hP rfl rfl, fun U hU hW => c_pre (wc := [(x, .inr (1, [.ref dg, .int (iI (((dl X : Nat) : Int))), .int (iI (pt)), .int (iI (zl)), .ref q])), (dg, .inl (cB, 1200, .inl g))]) (eX_X t5 ad) hE hK hP hD hS hA [0, 1] rfl (by decide) U hU hW⟩ rfl rfl hl.1 rfl (lv_room (Nat.le_of_ble_eq_true rfl)) d_Ed_put_84 ⟨Nat.le_of_ble_eq_true rfl, Nat.le_of_ble_eq_true rfl⟩) hP hD hS hA [0, 1] [] rfl rfl (by decide) (by decide) (fun u H locs hp hP hD hS => ?_)
                  obtain ⟨g2, hn2, rfl⟩ := hp
                  have hP : va_P D ecl [(x, .inr (1, [.ref dg, .int (iI (((dl (apX X i d.toNat) : Nat) : Int))), .int (iI (if X = 0 then -k else pt)), .int (iI (zl)), .ref q])), (dg, .inl (cB, 1200, .inl g2))] H := hP
                  have hD : va_D A [(x, .inr (1, [.ref dg, .int (iI (((dl (apX X i d.toNat) : Nat) : Int))), .int (iI (if X = 0 then -k else pt)), .int (iI (zl)), .ref q])), (dg, .inl (cB, 1200, .inl g2))] := hD
                  refine lv_aload_n hx hb d_Ed_put_87 rfl (lv_at hl 1 rfl) ?_
                  refine va_get (D := D) (ci := 1) (v := .int (iI (((dl (apX X i d.toNat) : Nat) : Int)))) (C := R_Ed) (T := T_Ed) (N := 5) hx hb hts (fun w h => List.mem_cons_of_mem _ (in_Ed w h)) hown hK hP 0 rfl rfl 1 (by decide) (hts _ (List.mem_cons_of_mem _ tw_41)) (fun _ h9 => h9) rfl d_Ed_put_88 ?_
                  exact W.iret (v := (iI (((dl (apX X i d.toNat) : Nat) : Int)))) hx hb hr (fun t9 ht9 hW9 => ⟨⟨(iI (((dl (apX X i d.toNat) : Nat) : Int))), [(x, .inr (1, [.ref dg, .int (iI (((dl (apX X i d.toNat) : Nat) : Int))), .int (iI (if X = 0 then -k else pt)), .int (iI (zl)), .ref q])), (dg, .inl (cB, 1200, .inl g2))], rfl, ⟨g2, _, _, rfl, hn2, Or.inr ⟨by omega, rfl, rfl⟩, rfl⟩, by rw [ht9]; exact hP, hD⟩, hS.F ht9⟩) hS.2.2 d_Ed_put_91
              · exact absurd h_10 (by omega)
        · exact absurd h_4 (by omega)
set_option maxHeartbeats 4000000 in
set_option maxRecDepth 100000 in
theorem c_Ed_put_no (l : Launch) (hl0 : l.stackTraces = false) (D : va_G) (cB cI cJ : ClassId) (t5 : Nat) (ad : Nat → Nat) (x dg q : Nat) (g : Nat → Int32) (pt zl k d : Int) (X : Nat) (hX12 : dl X ≤ 1200) (hpt : -100000000 ≤ pt ∧ pt ≤ 100000000) (hk : iR k) (hd : iR d) (hzl : zl = 0 ∨ zl = 1) (hm : d < 0 ∨ 9 < d ∨ k < -400 ∨ 400 < k ∨ zl = 1 ∨ (¬ X = 0 ∧ (pt + k < ((dl X : Nat) : Int) ∨ 1200 ≤ pt + k))) : c_T l m_Ed_put (Cond.code m_Ed_put b_Ed_put 4 (some .int) :: gw) (rmx_ 6 90) (eX t5 ad) D ecl (tyS cB cI cJ) [.ref x, .int (iI (k)), .int (iI (d))] [(x, .inr (1, [.ref dg, .int (iI (((dl X : Nat) : Int))), .int (iI (pt)), .int (iI (zl)), .ref q])), (dg, .inl (cB, 1200, .inl g))] xIA := by
  intro sz0
  refine vx_ofW (cc := b_Ed_put) (maxL := 4) (ret := (some .int)) (by decide) rfl ?_
  intro p e s m args below meth c s₁ B hml htab hv
  obtain ⟨rfl, hsz, hP, hK, hD0, hE⟩ := hv
  have hx := B.exec
  have hb := B.bytes
  have hr := B.returns
  have hts := atoms_spec (ws := Cond.code m_Ed_put b_Ed_put 4 (some .int) :: gw) B.pre
  have hown : s.vm.findClass R_Ed = some m.cls := findClass_of_methodNamed B.named
  have hlocks := B.notSynchronized
  subst hsz
  have hD := hD0.self (sz := s.heap.size)
  generalize hAe : va_A [(x, .inr (1, [.ref dg, .int (iI (((dl X : Nat) : Int))), .int (iI (pt)), .int (iI (zl)), .ref q])), (dg, .inl (cB, 1200, .inl g))] s.heap.size = A at hD hE ⊢
  have hA : ∀ q : Nat, s.heap.size ≤ q → A q := fun q h => by rw [← hAe]; exact Or.inr h
  have hS : va_S A s.heap s.heap [] := va_S.rf
  have hl := lv_entry ([.ref x, .int (iI (k)), .int (iI (d))]) (n := 4) (Nat.le_of_ble_eq_true rfl)
  rw [lg_entry_eq]
  generalize (lg_sl ([.ref x, .int (iI (k)), .int (iI (d))]) ++ List.replicate (4 - (lg_sl ([.ref x, .int (iI (k)), .int (iI (d))])).length) Slot.unset).toArray = ls at hl ⊢
  have hl : lv_has ls 4 [(0, .ref x), (1, .int (iI (k))), (2, .int (iI (d)))] := hl
  have hd0 : dl X = 0 ↔ X = 0 := ⟨fun z => dl_eq0 z, fun z => by rw [z, dl_0]⟩
  refine lv_iload_n hx hb d_Ed_put_0 rfl (lv_at hl 2 rfl) ?_
  refine ed_if_lt (tgt := 27) hx hb d_Ed_put_1 rfl (by omega) (fun h_1 => ?_) (fun h_1 => ?_)
  · skip
    refine ed_pc (pc' := 27) rfl ?_
    exact vx_throw0 (own := "ExactDigits") (cls := xIA) (names := xNm) (rest := []) hx hb hl0 hown (by decide +kernel) (by decide +kernel) (hts _ (List.mem_cons_of_mem _ tw_284)) (hts _ (List.mem_cons_of_mem _ tw_15)) (vx_hat (fun w h => hts w (List.mem_cons_of_mem _ (ta_IA w h))) tb_IA (eW_IA hE.2.2.2.2.2.2.2.2.2.2.2)) tg_IA hE.2.2.2.2.2.2.2.2.2.1 hE.2.2.2.2.2.2.2.2.2.2.1 hS (hl.1.trans hml.symm) d_Ed_put_27 d_Ed_put_30 d_Ed_put_31 d_Ed_put_34 (fun x h => (htab x h).elim) (Nat.le_of_ble_eq_true rfl) (Nat.le_of_ble_eq_true rfl) (Nat.le_of_ble_eq_true rfl) (Nat.le_of_ble_eq_true rfl) hlocks (fun t9 hv9 hz9 hk9 => c_xc hP hD hS hz9 hk9) hS.2.2 (Nat.le_of_ble_eq_true rfl) (Nat.le_of_ble_eq_true rfl)
  · skip
    refine ed_pc (pc' := 4) rfl ?_
    refine lv_iload_n hx hb d_Ed_put_4 rfl (lv_at hl 2 rfl) ?_
    refine lv_bipush (v := iI 9) hx hb d_Ed_put_5 (by decide +kernel) ?_
    refine ed_icmp_gt (tgt := 27) hx hb d_Ed_put_7 rfl (by omega) (by omega) (fun h_2 => ?_) (fun h_2 => ?_)
    · skip
      refine ed_pc (pc' := 27) rfl ?_
      exact vx_throw0 (own := "ExactDigits") (cls := xIA) (names := xNm) (rest := []) hx hb hl0 hown (by decide +kernel) (by decide +kernel) (hts _ (List.mem_cons_of_mem _ tw_284)) (hts _ (List.mem_cons_of_mem _ tw_15)) (vx_hat (fun w h => hts w (List.mem_cons_of_mem _ (ta_IA w h))) tb_IA (eW_IA hE.2.2.2.2.2.2.2.2.2.2.2)) tg_IA hE.2.2.2.2.2.2.2.2.2.1 hE.2.2.2.2.2.2.2.2.2.2.1 hS (hl.1.trans hml.symm) d_Ed_put_27 d_Ed_put_30 d_Ed_put_31 d_Ed_put_34 (fun x h => (htab x h).elim) (Nat.le_of_ble_eq_true rfl) (Nat.le_of_ble_eq_true rfl) (Nat.le_of_ble_eq_true rfl) (Nat.le_of_ble_eq_true rfl) hlocks (fun t9 hv9 hz9 hk9 => c_xc hP hD hS hz9 hk9) hS.2.2 (Nat.le_of_ble_eq_true rfl) (Nat.le_of_ble_eq_true rfl)
    · skip
      refine ed_pc (pc' := 10) rfl ?_
      refine lv_iload_n hx hb d_Ed_put_10 rfl (lv_at hl 1 rfl) ?_
      refine lv_sipush (v := iI 400) hx hb d_Ed_put_11 (by decide +kernel) ?_
      refine ed_pc (pc' := 14) rfl ?_
      refine c_fi (wc := []) (wr := [(x, .inr (1, [.ref dg, .int (iI (((dl X : Nat) : Int))), .int (iI (pt)), .int (iI (zl)), .ref q])), (dg, .inl (cB, 1200, .inl g))]) (va_runS (As := [.int (iI (k)), .int (iI (400))]) (rest := []) ⟨hx, hb, hml, hown, hts⟩ (c_Ed_isBeyond l D cB cI cJ t5 ad (k) 400 (by omega) (by omega) s.heap.size) (va_cwS 2 hts (gS tw_281 tw_282 tw_1 tw_283) rfl rfl rfl (by decide +kernel) ⟨Nat.le_of_ble_eq_true rfl, Nat.le_of_ble_eq_true rfl⟩) ⟨c_blind (eX_X t5 ad), fun U hU hW => c_pre (wc := []) (eX_X t5 ad) hE hK hP hD hS hA [] rfl (by decide) U hU hW⟩ rfl rfl hl.1 rfl (lv_room (Nat.le_of_ble_eq_true rfl)) d_Ed_put_14 ⟨Nat.le_of_ble_eq_true rfl, Nat.le_of_ble_eq_true rfl⟩) hP hD hS hA [] [0, 1] rfl rfl (by decide) (by decide) (fun r u H locs hp hP hD hS => ?_)
      obtain ⟨rfl, rfl⟩ := hp
      have hP : va_P D ecl [(x, .inr (1, [.ref dg, .int (iI (((dl X : Nat) : Int))), .int (iI (pt)), .int (iI (zl)), .ref q])), (dg, .inl (cB, 1200, .inl g))] H := hP
      have hD : va_D A [(x, .inr (1, [.ref dg, .int (iI (((dl X : Nat) : Int))), .int (iI (pt)), .int (iI (zl)), .ref q])), (dg, .inl (cB, 1200, .inl g))] := hD
      obtain ⟨zb, hzb, hzb2⟩ : ∃ zb : Int, zb = (if k < -400 ∨ 400 < k then 1 else 0) ∧ ((zb = 1 ∧ (k < -400 ∨ 400 < k)) ∨ (zb = 0 ∧ ¬ (k < -400 ∨ 400 < k))) := ⟨_, rfl, by split <;> simp_all⟩
      refine ed_tz (y := zb) (hzb.symm) ?_
      refine ed_if_ne (tgt := 27) hx hb d_Ed_put_17 rfl (by omega) (fun h_3 => ?_) (fun h_3 => ?_)
      · skip
        refine ed_pc (pc' := 27) rfl ?_
        exact vx_throw0 (own := "ExactDigits") (cls := xIA) (names := xNm) (rest := []) hx hb hl0 hown (by decide +kernel) (by decide +kernel) (hts _ (List.mem_cons_of_mem _ tw_284)) (hts _ (List.mem_cons_of_mem _ tw_15)) (vx_hat (fun w h => hts w (List.mem_cons_of_mem _ (ta_IA w h))) tb_IA (eW_IA hE.2.2.2.2.2.2.2.2.2.2.2)) tg_IA hE.2.2.2.2.2.2.2.2.2.1 hE.2.2.2.2.2.2.2.2.2.2.1 hS (hl.1.trans hml.symm) d_Ed_put_27 d_Ed_put_30 d_Ed_put_31 d_Ed_put_34 (fun x h => (htab x h).elim) (Nat.le_of_ble_eq_true rfl) (Nat.le_of_ble_eq_true rfl) (Nat.le_of_ble_eq_true rfl) (Nat.le_of_ble_eq_true rfl) hlocks (fun t9 hv9 hz9 hk9 => c_xc hP hD hS hz9 hk9) hS.2.2 (Nat.le_of_ble_eq_true rfl) (Nat.le_of_ble_eq_true rfl)
      · skip
        refine ed_pc (pc' := 20) rfl ?_
        refine lv_aload_n hx hb d_Ed_put_20 rfl (lv_at hl 0 rfl) ?_
        refine va_get (D := D) (ci := 1) (v := .int (iI (zl))) (C := R_Ed) (T := T_Ed) (N := 5) hx hb hts (fun w h => List.mem_cons_of_mem _ (in_Ed w h)) hown hK hP 0 rfl rfl 3 (by decide) (hts _ (List.mem_cons_of_mem _ tw_43)) (fun _ h9 => h9) rfl d_Ed_put_21 ?_
        refine ed_if_eq (tgt := 35) hx hb d_Ed_put_24 rfl (by omega) (fun h_4 => ?_) (fun h_4 => ?_)
        · skip
          refine ed_pc (pc' := 35) rfl ?_
          refine lv_aload_n hx hb d_Ed_put_35 rfl (lv_at hl 0 rfl) ?_
          refine va_get (D := D) (ci := 1) (v := .int (iI (((dl X : Nat) : Int)))) (C := R_Ed) (T := T_Ed) (N := 5) hx hb hts (fun w h => List.mem_cons_of_mem _ (in_Ed w h)) hown hK hP 0 rfl rfl 1 (by decide) (hts _ (List.mem_cons_of_mem _ tw_41)) (fun _ h9 => h9) rfl d_Ed_put_36 ?_
          refine ed_if_ne (tgt := 46) hx hb d_Ed_put_39 rfl (by omega) (fun h_5 => ?_) (fun h_5 => ?_)
          · skip
            refine ed_pc (pc' := 46) rfl ?_
            refine ed_pc (pc' := 46) rfl ?_
            refine lv_aload_n hx hb d_Ed_put_46 rfl (lv_at hl 0 rfl) ?_
            refine va_get (D := D) (ci := 1) (v := .int (iI (pt))) (C := R_Ed) (T := T_Ed) (N := 5) hx hb hts (fun w h => List.mem_cons_of_mem _ (in_Ed w h)) hown hK hP 0 rfl rfl 2 (by decide) (hts _ (List.mem_cons_of_mem _ tw_42)) (fun _ h9 => h9) rfl d_Ed_put_47 ?_
            refine lv_iload_n hx hb d_Ed_put_50 rfl (lv_at hl 1 rfl) ?_
            refine ed_iadd hx hb d_Ed_put_51 ?_
            refine lv_istore_n hx hb d_Ed_put_52 rfl hl (by decide) rfl (fun ls hl => ?_)
            have hl : lv_has ls 4 [(3, .int (iI ((pt) + (k)))), (0, .ref x), (1, .int (iI (k))), (2, .int (iI (d)))] := hl
            refine lv_iload_n hx hb d_Ed_put_53 rfl (lv_at hl 0 rfl) ?_
            refine lv_aload_n hx hb d_Ed_put_54 rfl (lv_at hl 1 rfl) ?_
            refine va_get (D := D) (ci := 1) (v := .int (iI (((dl X : Nat) : Int)))) (C := R_Ed) (T := T_Ed) (N := 5) hx hb hts (fun w h => List.mem_cons_of_mem _ (in_Ed w h)) hown hK hP 0 rfl rfl 1 (by decide) (hts _ (List.mem_cons_of_mem _ tw_41)) (fun _ h9 => h9) rfl d_Ed_put_55 ?_
            refine ed_pc (pc' := 58) rfl ?_
            refine ed_icmp_lt (tgt := 68) hx hb d_Ed_put_58 rfl (by omega) (by omega) (fun h_6 => ?_) (fun h_6 => ?_)
            · skip
              refine ed_pc (pc' := 68) rfl ?_
              exact vx_throw0 (own := "ExactDigits") (cls := xIA) (names := xNm) (rest := []) hx hb hl0 hown (by decide +kernel) (by decide +kernel) (hts _ (List.mem_cons_of_mem _ tw_284)) (hts _ (List.mem_cons_of_mem _ tw_15)) (vx_hat (fun w h => hts w (List.mem_cons_of_mem _ (ta_IA w h))) tb_IA (eW_IA hE.2.2.2.2.2.2.2.2.2.2.2)) tg_IA hE.2.2.2.2.2.2.2.2.2.1 hE.2.2.2.2.2.2.2.2.2.2.1 hS (hl.1.trans hml.symm) d_Ed_put_68 d_Ed_put_71 d_Ed_put_72 d_Ed_put_75 (fun x h => (htab x h).elim) (Nat.le_of_ble_eq_true rfl) (Nat.le_of_ble_eq_true rfl) (Nat.le_of_ble_eq_true rfl) (Nat.le_of_ble_eq_true rfl) hlocks (fun t9 hv9 hz9 hk9 => c_xc hP hD hS hz9 hk9) hS.2.2 (Nat.le_of_ble_eq_true rfl) (Nat.le_of_ble_eq_true rfl)
            · skip
              refine ed_pc (pc' := 61) rfl ?_
              refine lv_iload_n hx hb d_Ed_put_61 rfl (lv_at hl 0 rfl) ?_
              refine lv_sipush (v := iI 1200) hx hb d_Ed_put_62 (by decide +kernel) ?_
              refine ed_icmp_lt (tgt := 76) hx hb d_Ed_put_65 rfl (by omega) (by omega) (fun h_7 => ?_) (fun h_7 => ?_)
              · exact absurd h_7 (by omega)
              · skip
                refine ed_pc (pc' := 68) rfl ?_
                exact vx_throw0 (own := "ExactDigits") (cls := xIA) (names := xNm) (rest := []) hx hb hl0 hown (by decide +kernel) (by decide +kernel) (hts _ (List.mem_cons_of_mem _ tw_284)) (hts _ (List.mem_cons_of_mem _ tw_15)) (vx_hat (fun w h => hts w (List.mem_cons_of_mem _ (ta_IA w h))) tb_IA (eW_IA hE.2.2.2.2.2.2.2.2.2.2.2)) tg_IA hE.2.2.2.2.2.2.2.2.2.1 hE.2.2.2.2.2.2.2.2.2.2.1 hS (hl.1.trans hml.symm) d_Ed_put_68 d_Ed_put_71 d_Ed_put_72 d_Ed_put_75 (fun x h => (htab x h).elim) (Nat.le_of_ble_eq_true rfl) (Nat.le_of_ble_eq_true rfl) (Nat.le_of_ble_eq_true rfl) (Nat.le_of_ble_eq_true rfl) hlocks (fun t9 hv9 hz9 hk9 => c_xc hP hD hS hz9 hk9) hS.2.2 (Nat.le_of_ble_eq_true rfl) (Nat.le_of_ble_eq_true rfl)
          · exact absurd h_5 (by omega)
        · skip
          refine ed_pc (pc' := 27) rfl ?_
          exact vx_throw0 (own := "ExactDigits") (cls := xIA) (names := xNm) (rest := []) hx hb hl0 hown (by decide +kernel) (by decide +kernel) (hts _ (List.mem_cons_of_mem _ tw_284)) (hts _ (List.mem_cons_of_mem _ tw_15)) (vx_hat (fun w h => hts w (List.mem_cons_of_mem _ (ta_IA w h))) tb_IA (eW_IA hE.2.2.2.2.2.2.2.2.2.2.2)) tg_IA hE.2.2.2.2.2.2.2.2.2.1 hE.2.2.2.2.2.2.2.2.2.2.1 hS (hl.1.trans hml.symm) d_Ed_put_27 d_Ed_put_30 d_Ed_put_31 d_Ed_put_34 (fun x h => (htab x h).elim) (Nat.le_of_ble_eq_true rfl) (Nat.le_of_ble_eq_true rfl) (Nat.le_of_ble_eq_true rfl) (Nat.le_of_ble_eq_true rfl) hlocks (fun t9 hv9 hz9 hk9 => c_xc hP hD hS hz9 hk9) hS.2.2 (Nat.le_of_ble_eq_true rfl) (Nat.le_of_ble_eq_true rfl)
set_option maxHeartbeats 4000000 in
set_option maxRecDepth 100000 in
theorem c_Ed_shift (l : Launch) (D : va_G) (cB cI cJ : ClassId) (t5 : Nat) (ad : Nat → Nat) (x dg q pa : Nat) (g f : Nat → Int32) (zs pt zl k : Int) (X : Nat) (hnm : nm_ok g X) (hpt : -9000000 ≤ pt ∧ pt ≤ 9000000) (hzl : zl = 0 ∨ zl = 1) (hk : -2200 ≤ k ∧ k ≤ 2200) : c_I l m_Ed_shift (Cond.code m_Ed_shift b_Ed_shift 4 (some .int) :: gw) (rm_ 6 93) (eX t5 ad) D ecl (tyS cB cI cJ) [.ref x, .int (iI (k))] [(x, .inr (1, [.ref dg, .int (iI (((dl X : Nat) : Int))), .int (iI (pt)), .int (iI (zl)), .ref q])), (dg, .inl (cB, 1200, .inl g)), (q, .inr (0, [.ref pa, .int (iI (zs))])), (pa, .inl (cI, 306, .inl f))] (fun r u => r = iI ((dl (gvD (X * tw2 k)) : Nat) : Int) ∧ ∃ (g' f' : Nat → Int32) (zs' zl' : Int), nm_ok g' (gvD (X * tw2 k)) ∧ ((zl' = 1 ∧ (hdb (X * tw2 k) (((dl (X * tw2 k) : Nat) : Int) - 1200) = 1 ∨ zl = 1)) ∨ (zl' = 0 ∧ ¬ (hdb (X * tw2 k) (((dl (X * tw2 k) : Nat) : Int) - 1200) = 1 ∨ zl = 1))) ∧ u = [(x, .inr (1, [.ref dg, .int (iI (((dl (gvD (X * tw2 k)) : Nat) : Int))), .int (iI (if (X * tw2 k) = 0 then 0 else ((dl (X * tw2 k) : Nat) : Int) + (pt - ((dl X : Nat) : Int) + min k 0))), .int (iI (zl')), .ref q])), (dg, .inl (cB, 1200, .inl g')), (q, .inr (0, [.ref pa, .int (iI (zs'))])), (pa, .inl (cI, 306, .inl f'))]) 0 0 := by
  intro sz0
  refine Met.ofW (cc := b_Ed_shift) (maxL := 4) (ret := (some .int)) (by decide) rfl ?_
  intro p e s m args below meth c s₁ B hml hv
  obtain ⟨rfl, hsz, hP, hK, hD0, hE⟩ := hv
  have hx := B.exec
  have hb := B.bytes
  have hr := B.returns
  have hts := atoms_spec (ws := Cond.code m_Ed_shift b_Ed_shift 4 (some .int) :: gw) B.pre
  have hown : s.vm.findClass R_Ed = some m.cls := findClass_of_methodNamed B.named
  have hlocks := B.notSynchronized
  subst hsz
  have hD := hD0.self (sz := s.heap.size)
  generalize hAe : va_A [(x, .inr (1, [.ref dg, .int (iI (((dl X : Nat) : Int))), .int (iI (pt)), .int (iI (zl)), .ref q])), (dg, .inl (cB, 1200, .inl g)), (q, .inr (0, [.ref pa, .int (iI (zs))])), (pa, .inl (cI, 306, .inl f))] s.heap.size = A at hD hE ⊢
  have hA : ∀ q : Nat, s.heap.size ≤ q → A q := fun q h => by rw [← hAe]; exact Or.inr h
  have hS : va_S A s.heap s.heap [] := va_S.rf
  have hl := lv_entry ([.ref x, .int (iI (k))]) (n := 4) (Nat.le_of_ble_eq_true rfl)
  rw [lg_entry_eq]
  generalize (lg_sl ([.ref x, .int (iI (k))]) ++ List.replicate (4 - (lg_sl ([.ref x, .int (iI (k))])).length) Slot.unset).toArray = ls at hl ⊢
  have hl : lv_has ls 4 [(0, .ref x), (1, .int (iI (k)))] := hl
  have hX12 := hnm.1
  have hXR := sh_room hX12 hk
  refine lv_iload_n hx hb d_Ed_shift_0 rfl (lv_at hl 1 rfl) ?_
  refine lv_sipush (v := iI 2200) hx hb d_Ed_shift_1 (by decide +kernel) ?_
  refine c_fi (wc := []) (wr := [(x, .inr (1, [.ref dg, .int (iI (((dl X : Nat) : Int))), .int (iI (pt)), .int (iI (zl)), .ref q])), (dg, .inl (cB, 1200, .inl g)), (q, .inr (0, [.ref pa, .int (iI (zs))])), (pa, .inl (cI, 306, .inl f))]) (va_runS (As := [.int (iI (k)), .int (iI (2200))]) (rest := []) ⟨hx, hb, hml, hown, hts⟩ (c_Ed_isBeyond l D cB cI cJ t5 ad (k) 2200 (by omega) (by omega) s.heap.size) (va_cwS 2 hts (gS tw_281 tw_282 tw_1 tw_283) rfl rfl rfl (by decide +kernel) ⟨Nat.le_of_ble_eq_true rfl, Nat.le_of_ble_eq_true rfl⟩) ⟨c_blind (eX_X t5 ad), fun U hU hW => c_pre (wc := []) (eX_X t5 ad) hE hK hP hD hS hA [] rfl (by decide) U hU hW⟩ rfl rfl hl.1 rfl (lv_room (Nat.le_of_ble_eq_true rfl)) d_Ed_shift_4 ⟨Nat.le_of_ble_eq_true rfl, Nat.le_of_ble_eq_true rfl⟩) hP hD hS hA [] [0, 1, 2, 3] rfl rfl (by decide) (by decide) (fun r u H locs hp hP hD hS => ?_)
  obtain ⟨rfl, rfl⟩ := hp
  have hP : va_P D ecl [(x, .inr (1, [.ref dg, .int (iI (((dl X : Nat) : Int))), .int (iI (pt)), .int (iI (zl)), .ref q])), (dg, .inl (cB, 1200, .inl g)), (q, .inr (0, [.ref pa, .int (iI (zs))])), (pa, .inl (cI, 306, .inl f))] H := hP
  have hD : va_D A [(x, .inr (1, [.ref dg, .int (iI (((dl X : Nat) : Int))), .int (iI (pt)), .int (iI (zl)), .ref q])), (dg, .inl (cB, 1200, .inl g)), (q, .inr (0, [.ref pa, .int (iI (zs))])), (pa, .inl (cI, 306, .inl f))] := hD
  obtain ⟨zb, hzb, hzb2⟩ : ∃ zb : Int, zb = (if k < -2200 ∨ 2200 < k then 1 else 0) ∧ ((zb = 1 ∧ (k < -2200 ∨ 2200 < k)) ∨ (zb = 0 ∧ ¬ (k < -2200 ∨ 2200 < k))) := ⟨_, rfl, by split <;> simp_all⟩
  refine ed_tz (y := zb) (hzb.symm) ?_
  refine ed_if_eq (tgt := 18) hx hb d_Ed_shift_7 rfl (by omega) (fun h_1 => ?_) (fun h_1 => ?_)
  · skip
    refine ed_pc (pc' := 18) rfl ?_
    refine lv_aload_n hx hb d_Ed_shift_18 rfl (lv_at hl 0 rfl) ?_
    refine va_get (D := D) (ci := 1) (v := .ref q) (C := R_Ed) (T := T_Ed) (N := 5) hx hb hts (fun w h => List.mem_cons_of_mem _ (in_Ed w h)) hown hK hP 0 rfl rfl 4 (by decide) (hts _ (List.mem_cons_of_mem _ tw_44)) (fun _ h9 => h9) rfl d_Ed_shift_19 ?_
    refine lv_aload_n hx hb d_Ed_shift_22 rfl (lv_at hl 0 rfl) ?_
    refine ed_pc (pc' := 23) rfl ?_
    refine va_get (D := D) (ci := 1) (v := .ref dg) (C := R_Ed) (T := T_Ed) (N := 5) hx hb hts (fun w h => List.mem_cons_of_mem _ (in_Ed w h)) hown hK hP 0 rfl rfl 0 (by decide) (hts _ (List.mem_cons_of_mem _ tw_40)) (fun _ h9 => h9) rfl d_Ed_shift_23 ?_
    refine lv_aload_n hx hb d_Ed_shift_26 rfl (lv_at hl 0 rfl) ?_
    refine va_get (D := D) (ci := 1) (v := .int (iI (((dl X : Nat) : Int)))) (C := R_Ed) (T := T_Ed) (N := 5) hx hb hts (fun w h => List.mem_cons_of_mem _ (in_Ed w h)) hown hK hP 0 rfl rfl 1 (by decide) (hts _ (List.mem_cons_of_mem _ tw_41)) (fun _ h9 => h9) rfl d_Ed_shift_27 ?_
    refine c_fv (wc := [(q, .inr (0, [.ref pa, .int (iI (zs))])), (pa, .inl (cI, 306, .inl f)), (dg, .inl (cB, 1200, .inl g))]) (wr := [(x, .inr (1, [.ref dg, .int (iI (((dl X : Nat) : Int))), .int (iI (pt)), .int (iI (zl)), .ref q]))]) (va_runV (C := "ExactDigits$Natural") (As := [.ref dg, .int (iI (((dl X : Nat) : Int)))]) (rest := []) ⟨hx, hb, hml, hown, hts⟩ (c_Na_setDigits l D cB cI cJ t5 ad q pa dg f g zs (dl X) X hX12 (dl_lt X) (fun z => dl_le (by rcases Nat.eq_zero_or_pos X with y | y; rw [y, dl_0] at z; omega; exact y)) hnm.2.2 H.size) (cwV 2 hts (gV tw_99 tw_100 tw_101 tw_2 tw_102) rfl rfl rfl (by decide +kernel) ⟨Nat.le_of_ble_eq_true rfl, Nat.le_of_ble_eq_true rfl⟩) ⟨c_blind (eX_X t5 ad), va_recv (ci := 0) (q0 := 2) hK hP rfl rfl, fun U hU hW => c_pre (wc := [(q, .inr (0, [.ref pa, .int (iI (zs))])), (pa, .inl (cI, 306, .inl f)), (dg, .inl (cB, 1200, .inl g))]) (eX_X t5 ad) hE hK hP hD hS hA [2, 3, 1] rfl (by decide) U hU hW⟩ rfl rfl hl.1 rfl (lv_room (Nat.le_of_ble_eq_true rfl)) d_Ed_shift_30 ⟨Nat.le_of_ble_eq_true rfl, Nat.le_of_ble_eq_true rfl⟩) hP hD hS hA [2, 3, 1] [0] rfl rfl (by decide) (by decide) (fun u H locs hp hP hD hS => ?_)
    obtain ⟨f2, s2, rfl, hok⟩ := hp
    have hP : va_P D ecl [(x, .inr (1, [.ref dg, .int (iI (((dl X : Nat) : Int))), .int (iI (pt)), .int (iI (zl)), .ref q])), (q, .inr (0, [.ref pa, .int (iI ((s2 : Int)))])), (pa, .inl (cI, 306, .inl f2)), (dg, .inl (cB, 1200, .inl g))] H := hP
    have hD : va_D A [(x, .inr (1, [.ref dg, .int (iI (((dl X : Nat) : Int))), .int (iI (pt)), .int (iI (zl)), .ref q])), (q, .inr (0, [.ref pa, .int (iI ((s2 : Int)))])), (pa, .inl (cI, 306, .inl f2)), (dg, .inl (cB, 1200, .inl g))] := hD
    refine lv_aload_n hx hb d_Ed_shift_33 rfl (lv_at hl 0 rfl) ?_
    refine va_get (D := D) (ci := 1) (v := .int (iI (pt))) (C := R_Ed) (T := T_Ed) (N := 5) hx hb hts (fun w h => List.mem_cons_of_mem _ (in_Ed w h)) hown hK hP 0 rfl rfl 2 (by decide) (hts _ (List.mem_cons_of_mem _ tw_42)) (fun _ h9 => h9) rfl d_Ed_shift_34 ?_
    refine lv_aload_n hx hb d_Ed_shift_37 rfl (lv_at hl 0 rfl) ?_
    refine va_get (D := D) (ci := 1) (v := .int (iI (((dl X : Nat) : Int)))) (C := R_Ed) (T := T_Ed) (N := 5) hx hb hts (fun w h => List.mem_cons_of_mem _ (in_Ed w h)) hown hK hP 0 rfl rfl 1 (by decide) (hts _ (List.mem_cons_of_mem _ tw_41)) (fun _ h9 => h9) rfl d_Ed_shift_38 ?_
    refine ed_pc (pc' := 41) rfl ?_
    refine ed_isub hx hb d_Ed_shift_41 ?_
    refine lv_aload_n hx hb d_Ed_shift_42 rfl (lv_at hl 0 rfl) ?_
    refine va_get (D := D) (ci := 1) (v := .ref q) (C := R_Ed) (T := T_Ed) (N := 5) hx hb hts (fun w h => List.mem_cons_of_mem _ (in_Ed w h)) hown hK hP 0 rfl rfl 4 (by decide) (hts _ (List.mem_cons_of_mem _ tw_44)) (fun _ h9 => h9) rfl d_Ed_shift_43 ?_
    refine lv_iload_n hx hb d_Ed_shift_46 rfl (lv_at hl 1 rfl) ?_
    refine c_fi (wc := [(q, .inr (0, [.ref pa, .int (iI ((s2 : Int)))])), (pa, .inl (cI, 306, .inl f2))]) (wr := [(x, .inr (1, [.ref dg, .int (iI (((dl X : Nat) : Int))), .int (iI (pt)), .int (iI (zl)), .ref q])), (dg, .inl (cB, 1200, .inl g))]) (va_runV (C := "ExactDigits$Natural") (As := [.int (iI (k))]) (rest := [.int (iI ((pt) - (((dl X : Nat) : Int))))]) ⟨hx, hb, hml, hown, hts⟩ (c_Na_timesTwoTo l D cB cI cJ t5 ad q pa f2 s2 X k (by omega) hok hXR H.size) (cwV 1 hts (gV tw_118 tw_119 tw_120 tw_2 tw_121) rfl rfl rfl (by decide +kernel) ⟨Nat.le_of_ble_eq_true rfl, Nat.le_of_ble_eq_true rfl⟩) ⟨c_blind (eX_X t5 ad), va_recv (ci := 0) (q0 := 1) hK hP rfl rfl, fun U hU hW => c_pre (wc := [(q, .inr (0, [.ref pa, .int (iI ((s2 : Int)))])), (pa, .inl (cI, 306, .inl f2))]) (eX_X t5 ad) hE hK hP hD hS hA [1, 2] rfl (by decide) U hU hW⟩ rfl rfl hl.1 rfl (lv_room (Nat.le_of_ble_eq_true rfl)) d_Ed_shift_47 ⟨Nat.le_of_ble_eq_true rfl, Nat.le_of_ble_eq_true rfl⟩) hP hD hS hA [1, 2] [0, 3] rfl rfl (by decide) (by decide) (fun r u H locs hp hP hD hS => ?_)
    obtain ⟨rfl, f3, s3, rfl, hok3⟩ := hp
    have hP : va_P D ecl [(x, .inr (1, [.ref dg, .int (iI (((dl X : Nat) : Int))), .int (iI (pt)), .int (iI (zl)), .ref q])), (dg, .inl (cB, 1200, .inl g)), (q, .inr (0, [.ref pa, .int (iI ((s3 : Int)))])), (pa, .inl (cI, 306, .inl f3))] H := hP
    have hD : va_D A [(x, .inr (1, [.ref dg, .int (iI (((dl X : Nat) : Int))), .int (iI (pt)), .int (iI (zl)), .ref q])), (dg, .inl (cB, 1200, .inl g)), (q, .inr (0, [.ref pa, .int (iI ((s3 : Int)))])), (pa, .inl (cI, 306, .inl f3))] := hD
    refine ed_iadd hx hb d_Ed_shift_50 ?_
    refine ed_tz (y := (pt - ((dl X : Nat) : Int) + min k 0)) (rfl) ?_
    refine lv_istore_n hx hb d_Ed_shift_51 rfl hl (by decide) rfl (fun ls hl => ?_)
    have hl : lv_has ls 4 [(2, .int (iI ((pt - ((dl X : Nat) : Int) + min k 0)))), (0, .ref x), (1, .int (iI (k)))] := hl
    refine lv_aload_n hx hb d_Ed_shift_52 rfl (lv_at hl 1 rfl) ?_
    refine ed_pc (pc' := 53) rfl ?_
    refine va_get (D := D) (ci := 1) (v := .int (iI (zl))) (C := R_Ed) (T := T_Ed) (N := 5) hx hb hts (fun w h => List.mem_cons_of_mem _ (in_Ed w h)) hown hK hP 0 rfl rfl 3 (by decide) (hts _ (List.mem_cons_of_mem _ tw_43)) (fun _ h9 => h9) rfl d_Ed_shift_53 ?_
    refine lv_istore_n hx hb d_Ed_shift_56 rfl hl (by decide) rfl (fun ls hl => ?_)
    have hl : lv_has ls 4 [(3, .int (iI (zl))), (2, .int (iI ((pt - ((dl X : Nat) : Int) + min k 0)))), (0, .ref x), (1, .int (iI (k)))] := hl
    refine lv_aload_n hx hb d_Ed_shift_57 rfl (lv_at hl 2 rfl) ?_
    refine lv_iload_n hx hb d_Ed_shift_58 rfl (lv_at hl 1 rfl) ?_
    refine c_fv (wc := [(x, .inr (1, [.ref dg, .int (iI (((dl X : Nat) : Int))), .int (iI (pt)), .int (iI (zl)), .ref q])), (dg, .inl (cB, 1200, .inl g)), (q, .inr (0, [.ref pa, .int (iI ((s3 : Int)))])), (pa, .inl (cI, 306, .inl f3))]) (wr := []) (va_runV (C := "ExactDigits") (As := [.int (iI ((pt - ((dl X : Nat) : Int) + min k 0)))]) (rest := []) ⟨hx, hb, hml, hown, hts⟩ (c_Ed_giveScratch l D cB cI cJ t5 ad x dg q pa g f3 s3 (X * tw2 k) ((dl X : Nat) : Int) pt zl (pt - ((dl X : Nat) : Int) + min k 0) (by omega) hok3 H.size) (cwV 1 hts (gV tw_66 tw_68 ts_0 tw_1 tw_69) rfl rfl rfl (by decide +kernel) ⟨Nat.le_of_ble_eq_true rfl, Nat.le_of_ble_eq_true rfl⟩) ⟨c_blind (eX_X t5 ad), va_recv (ci := 1) (q0 := 0) hK hP rfl rfl, fun U hU hW => c_pre (wc := [(x, .inr (1, [.ref dg, .int (iI (((dl X : Nat) : Int))), .int (iI (pt)), .int (iI (zl)), .ref q])), (dg, .inl (cB, 1200, .inl g)), (q, .inr (0, [.ref pa, .int (iI ((s3 : Int)))])), (pa, .inl (cI, 306, .inl f3))]) (eX_X t5 ad) hE hK hP hD hS hA [0, 1, 2, 3] rfl (by decide) U hU hW⟩ rfl rfl hl.1 rfl (lv_room (Nat.le_of_ble_eq_true rfl)) d_Ed_shift_59 ⟨Nat.le_of_ble_eq_true rfl, Nat.le_of_ble_eq_true rfl⟩) hP hD hS hA [0, 1, 2, 3] [] rfl rfl (by decide) (by decide) (fun u H locs hp hP hD hS => ?_)
    obtain ⟨g3, hn3, rfl⟩ := hp
    have hP : va_P D ecl [(x, .inr (1, [.ref dg, .int (iI (((dl (gvD (X * tw2 k)) : Nat) : Int))), .int (iI (if (X * tw2 k) = 0 then 0 else ((dl (X * tw2 k) : Nat) : Int) + (pt - ((dl X : Nat) : Int) + min k 0))), .int (iI (hdb (X * tw2 k) (((dl (X * tw2 k) : Nat) : Int) - 1200))), .ref q])), (dg, .inl (cB, 1200, .inl g3)), (q, .inr (0, [.ref pa, .int (iI ((s3 : Int)))])), (pa, .inl (cI, 306, .inl f3))] H := hP
    have hD : va_D A [(x, .inr (1, [.ref dg, .int (iI (((dl (gvD (X * tw2 k)) : Nat) : Int))), .int (iI (if (X * tw2 k) = 0 then 0 else ((dl (X * tw2 k) : Nat) : Int) + (pt - ((dl X : Nat) : Int) + min k 0))), .int (iI (hdb (X * tw2 k) (((dl (X * tw2 k) : Nat) : Int) - 1200))), .ref q])), (dg, .inl (cB, 1200, .inl g3)), (q, .inr (0, [.ref pa, .int (iI ((s3 : Int)))])), (pa, .inl (cI, 306, .inl f3))] := hD
    have hh01 := hdb_or (X * tw2 k) (((dl (X * tw2 k) : Nat) : Int) - 1200)
    refine lv_aload_n hx hb d_Ed_shift_62 rfl (lv_at hl 2 rfl) ?_
    refine lv_aload_n hx hb d_Ed_shift_63 rfl (lv_at hl 2 rfl) ?_
    refine va_get (D := D) (ci := 1) (v := .int (iI (hdb (X * tw2 k) (((dl (X * tw2 k) : Nat) : Int) - 1200)))) (C := R_Ed) (T := T_Ed) (N := 5) hx hb hts (fun w h => List.mem_cons_of_mem _ (in_Ed w h)) hown hK hP 0 rfl rfl 3 (by decide) (hts _ (List.mem_cons_of_mem _ tw_43)) (fun _ h9 => h9) rfl d_Ed_shift_64 ?_
    refine ed_pc (pc' := 67) rfl ?_
    refine ed_if_ne (tgt := 74) hx hb d_Ed_shift_67 rfl (by omega) (fun h_2 => ?_) (fun h_2 => ?_)
    · skip
      refine ed_pc (pc' := 74) rfl ?_
      refine lv_iconst (v := iI 1) hx hb d_Ed_shift_74 rfl ?_
      refine lv_goto (tgt := 79) hx hb d_Ed_shift_75 rfl ?_
      refine va_put (D := D) (ci := 1) (v := .int (iI (1))) (ty := .boolean) (C := R_Ed) (T := T_Ed) (N := 5) hx hb hts (fun w h => List.mem_cons_of_mem _ (in_Ed w h)) y_Ed t_Ed n_Ed hown hK hP hD hS 0 rfl rfl 3 (by decide) (hts _ (List.mem_cons_of_mem _ tw_43)) (fun _ h9 => h9) rfl (by decide +kernel) (by decide +kernel) (by decide +kernel) (Nat.le_of_ble_eq_true rfl) d_Ed_shift_79 (fun H locs hP hD hS => ?_)
      have hP : va_P D ecl [(x, .inr (1, [.ref dg, .int (iI (((dl (gvD (X * tw2 k)) : Nat) : Int))), .int (iI (if (X * tw2 k) = 0 then 0 else ((dl (X * tw2 k) : Nat) : Int) + (pt - ((dl X : Nat) : Int) + min k 0))), .int (iI (1)), .ref q])), (dg, .inl (cB, 1200, .inl g3)), (q, .inr (0, [.ref pa, .int (iI ((s3 : Int)))])), (pa, .inl (cI, 306, .inl f3))] H := hP
      have hD : va_D A [(x, .inr (1, [.ref dg, .int (iI (((dl (gvD (X * tw2 k)) : Nat) : Int))), .int (iI (if (X * tw2 k) = 0 then 0 else ((dl (X * tw2 k) : Nat) : Int) + (pt - ((dl X : Nat) : Int) + min k 0))), .int (iI (1)), .ref q])), (dg, .inl (cB, 1200, .inl g3)), (q, .inr (0, [.ref pa, .int (iI ((s3 : Int)))])), (pa, .inl (cI, 306, .inl f3))] := hD
      refine lv_aload_n hx hb d_Ed_shift_82 rfl (lv_at hl 2 rfl) ?_
      refine va_get (D := D) (ci := 1) (v := .int (iI (((dl (gvD (X * tw2 k)) : Nat) : Int)))) (C := R_Ed) (T := T_Ed) (N := 5) hx hb hts (fun w h => List.mem_cons_of_mem _ (in_Ed w h)) hown hK hP 0 rfl rfl 1 (by decide) (hts _ (List.mem_cons_of_mem _ tw_41)) (fun _ h9 => h9) rfl d_Ed_shift_83 ?_
      exact W.iret (v := (iI (((dl (gvD (X * tw2 k)) : Nat) : Int)))) hx hb hr (fun t9 ht9 hW9 => ⟨⟨(iI (((dl (gvD (X * tw2 k)) : Nat) : Int))), [(x, .inr (1, [.ref dg, .int (iI (((dl (gvD (X * tw2 k)) : Nat) : Int))), .int (iI (if (X * tw2 k) = 0 then 0 else ((dl (X * tw2 k) : Nat) : Int) + (pt - ((dl X : Nat) : Int) + min k 0))), .int (iI (1)), .ref q])), (dg, .inl (cB, 1200, .inl g3)), (q, .inr (0, [.ref pa, .int (iI ((s3 : Int)))])), (pa, .inl (cI, 306, .inl f3))], rfl, ⟨rfl, g3, f3, _, 1, hn3, Or.inl ⟨rfl, by omega⟩, rfl⟩, by rw [ht9]; exact hP, hD⟩, hS.F ht9⟩) hS.2.2 d_Ed_shift_86
    · skip
      refine ed_pc (pc' := 70) rfl ?_
      refine lv_iload_n hx hb d_Ed_shift_70 rfl (lv_at hl 0 rfl) ?_
      refine ed_if_eq (tgt := 78) hx hb d_Ed_shift_71 rfl (by omega) (fun h_3 => ?_) (fun h_3 => ?_)
      · skip
        refine ed_pc (pc' := 78) rfl ?_
        refine lv_iconst (v := iI 0) hx hb d_Ed_shift_78 rfl ?_
        refine va_put (D := D) (ci := 1) (v := .int (iI (0))) (ty := .boolean) (C := R_Ed) (T := T_Ed) (N := 5) hx hb hts (fun w h => List.mem_cons_of_mem _ (in_Ed w h)) y_Ed t_Ed n_Ed hown hK hP hD hS 0 rfl rfl 3 (by decide) (hts _ (List.mem_cons_of_mem _ tw_43)) (fun _ h9 => h9) rfl (by decide +kernel) (by decide +kernel) (by decide +kernel) (Nat.le_of_ble_eq_true rfl) d_Ed_shift_79 (fun H locs hP hD hS => ?_)
        have hP : va_P D ecl [(x, .inr (1, [.ref dg, .int (iI (((dl (gvD (X * tw2 k)) : Nat) : Int))), .int (iI (if (X * tw2 k) = 0 then 0 else ((dl (X * tw2 k) : Nat) : Int) + (pt - ((dl X : Nat) : Int) + min k 0))), .int (iI (0)), .ref q])), (dg, .inl (cB, 1200, .inl g3)), (q, .inr (0, [.ref pa, .int (iI ((s3 : Int)))])), (pa, .inl (cI, 306, .inl f3))] H := hP
        have hD : va_D A [(x, .inr (1, [.ref dg, .int (iI (((dl (gvD (X * tw2 k)) : Nat) : Int))), .int (iI (if (X * tw2 k) = 0 then 0 else ((dl (X * tw2 k) : Nat) : Int) + (pt - ((dl X : Nat) : Int) + min k 0))), .int (iI (0)), .ref q])), (dg, .inl (cB, 1200, .inl g3)), (q, .inr (0, [.ref pa, .int (iI ((s3 : Int)))])), (pa, .inl (cI, 306, .inl f3))] := hD
        refine lv_aload_n hx hb d_Ed_shift_82 rfl (lv_at hl 2 rfl) ?_
        refine va_get (D := D) (ci := 1) (v := .int (iI (((dl (gvD (X * tw2 k)) : Nat) : Int)))) (C := R_Ed) (T := T_Ed) (N := 5) hx hb hts (fun w h => List.mem_cons_of_mem _ (in_Ed w h)) hown hK hP 0 rfl rfl 1 (by decide) (hts _ (List.mem_cons_of_mem _ tw_41)) (fun _ h9 => h9) rfl d_Ed_shift_83 ?_
        exact W.iret (v := (iI (((dl (gvD (X * tw2 k)) : Nat) : Int)))) hx hb hr (fun t9 ht9 hW9 => ⟨⟨(iI (((dl (gvD (X * tw2 k)) : Nat) : Int))), [(x, .inr (1, [.ref dg, .int (iI (((dl (gvD (X * tw2 k)) : Nat) : Int))), .int (iI (if (X * tw2 k) = 0 then 0 else ((dl (X * tw2 k) : Nat) : Int) + (pt - ((dl X : Nat) : Int) + min k 0))), .int (iI (0)), .ref q])), (dg, .inl (cB, 1200, .inl g3)), (q, .inr (0, [.ref pa, .int (iI ((s3 : Int)))])), (pa, .inl (cI, 306, .inl f3))], rfl, ⟨rfl, g3, f3, _, 0, hn3, Or.inr ⟨rfl, by omega⟩, rfl⟩, by rw [ht9]; exact hP, hD⟩, hS.F ht9⟩) hS.2.2 d_Ed_shift_86
      · skip
        refine ed_pc (pc' := 74) rfl ?_
        refine lv_iconst (v := iI 1) hx hb d_Ed_shift_74 rfl ?_
        refine lv_goto (tgt := 79) hx hb d_Ed_shift_75 rfl ?_
        refine va_put (D := D) (ci := 1) (v := .int (iI (1))) (ty := .boolean) (C := R_Ed) (T := T_Ed) (N := 5) hx hb hts (fun w h => List.mem_cons_of_mem _ (in_Ed w h)) y_Ed t_Ed n_Ed hown hK hP hD hS 0 rfl rfl 3 (by decide) (hts _ (List.mem_cons_of_mem _ tw_43)) (fun _ h9 => h9) rfl (by decide +kernel) (by decide +kernel) (by decide +kernel) (Nat.le_of_ble_eq_true rfl) d_Ed_shift_79 (fun H locs hP hD hS => ?_)
        have hP : va_P D ecl [(x, .inr (1, [.ref dg, .int (iI (((dl (gvD (X * tw2 k)) : Nat) : Int))), .int (iI (if (X * tw2 k) = 0 then 0 else ((dl (X * tw2 k) : Nat) : Int) + (pt - ((dl X : Nat) : Int) + min k 0))), .int (iI (1)), .ref q])), (dg, .inl (cB, 1200, .inl g3)), (q, .inr (0, [.ref pa, .int (iI ((s3 : Int)))])), (pa, .inl (cI, 306, .inl f3))] H := hP
        have hD : va_D A [(x, .inr (1, [.ref dg, .int (iI (((dl (gvD (X * tw2 k)) : Nat) : Int))), .int (iI (if (X * tw2 k) = 0 then 0 else ((dl (X * tw2 k) : Nat) : Int) + (pt - ((dl X : Nat) : Int) + min k 0))), .int (iI (1)), .ref q])), (dg, .inl (cB, 1200, .inl g3)), (q, .inr (0, [.ref pa, .int (iI ((s3 : Int)))])), (pa, .inl (cI, 306, .inl f3))] := hD
        refine lv_aload_n hx hb d_Ed_shift_82 rfl (lv_at hl 2 rfl) ?_
        refine va_get (D := D) (ci := 1) (v := .int (iI (((dl (gvD (X * tw2 k)) : Nat) : Int)))) (C := R_Ed) (T := T_Ed) (N := 5) hx hb hts (fun w h => List.mem_cons_of_mem _ (in_Ed w h)) hown hK hP 0 rfl rfl 1 (by decide) (hts _ (List.mem_cons_of_mem _ tw_41)) (fun _ h9 => h9) rfl d_Ed_shift_83 ?_
        exact W.iret (v := (iI (((dl (gvD (X * tw2 k)) : Nat) : Int)))) hx hb hr (fun t9 ht9 hW9 => ⟨⟨(iI (((dl (gvD (X * tw2 k)) : Nat) : Int))), [(x, .inr (1, [.ref dg, .int (iI (((dl (gvD (X * tw2 k)) : Nat) : Int))), .int (iI (if (X * tw2 k) = 0 then 0 else ((dl (X * tw2 k) : Nat) : Int) + (pt - ((dl X : Nat) : Int) + min k 0))), .int (iI (1)), .ref q])), (dg, .inl (cB, 1200, .inl g3)), (q, .inr (0, [.ref pa, .int (iI ((s3 : Int)))])), (pa, .inl (cI, 306, .inl f3))], rfl, ⟨rfl, g3, f3, _, 1, hn3, Or.inl ⟨rfl, by omega⟩, rfl⟩, by rw [ht9]; exact hP, hD⟩, hS.F ht9⟩) hS.2.2 d_Ed_shift_86
  · exact absurd h_1 (by omega)
set_option maxHeartbeats 4000000 in
set_option maxRecDepth 100000 in
theorem c_Ed_shift_no (l : Launch) (hl0 : l.stackTraces = false) (D : va_G) (cB cI cJ : ClassId) (t5 : Nat) (ad : Nat → Nat) (x dg q : Nat) (g : Nat → Int32) (zc pt zl n : Int) (hk : iR n) (hm : n < -2200 ∨ 2200 < n) : c_T l m_Ed_shift (Cond.code m_Ed_shift b_Ed_shift 4 (some .int) :: gw) (rmx_ 6 93) (eX t5 ad) D ecl (tyS cB cI cJ) [.ref x, .int (iI (n))] [(x, .inr (1, [.ref dg, .int (iI (zc)), .int (iI (pt)), .int (iI (zl)), .ref q])), (dg, .inl (cB, 1200, .inl g))] xIA := by
  intro sz0
  refine vx_ofW (cc := b_Ed_shift) (maxL := 4) (ret := (some .int)) (by decide) rfl ?_
  intro p e s m args below meth c s₁ B hml htab hv
  obtain ⟨rfl, hsz, hP, hK, hD0, hE⟩ := hv
  have hx := B.exec
  have hb := B.bytes
  have hr := B.returns
  have hts := atoms_spec (ws := Cond.code m_Ed_shift b_Ed_shift 4 (some .int) :: gw) B.pre
  have hown : s.vm.findClass R_Ed = some m.cls := findClass_of_methodNamed B.named
  have hlocks := B.notSynchronized
  subst hsz
  have hD := hD0.self (sz := s.heap.size)
  generalize hAe : va_A [(x, .inr (1, [.ref dg, .int (iI (zc)), .int (iI (pt)), .int (iI (zl)), .ref q])), (dg, .inl (cB, 1200, .inl g))] s.heap.size = A at hD hE ⊢
  have hA : ∀ q : Nat, s.heap.size ≤ q → A q := fun q h => by rw [← hAe]; exact Or.inr h
  have hS : va_S A s.heap s.heap [] := va_S.rf
  have hl := lv_entry ([.ref x, .int (iI (n))]) (n := 4) (Nat.le_of_ble_eq_true rfl)
  rw [lg_entry_eq]
  generalize (lg_sl ([.ref x, .int (iI (n))]) ++ List.replicate (4 - (lg_sl ([.ref x, .int (iI (n))])).length) Slot.unset).toArray = ls at hl ⊢
  have hl : lv_has ls 4 [(0, .ref x), (1, .int (iI (n)))] := hl
  refine lv_iload_n hx hb d_Ed_shift_0 rfl (lv_at hl 1 rfl) ?_
  refine lv_sipush (v := iI 2200) hx hb d_Ed_shift_1 (by decide +kernel) ?_
  refine c_fi (wc := []) (wr := [(x, .inr (1, [.ref dg, .int (iI (zc)), .int (iI (pt)), .int (iI (zl)), .ref q])), (dg, .inl (cB, 1200, .inl g))]) (va_runS (As := [.int (iI (n)), .int (iI (2200))]) (rest := []) ⟨hx, hb, hml, hown, hts⟩ (c_Ed_isBeyond l D cB cI cJ t5 ad (n) 2200 (by omega) (by omega) s.heap.size) (va_cwS 2 hts (gS tw_281 tw_282 tw_1 tw_283) rfl rfl rfl (by decide +kernel) ⟨Nat.le_of_ble_eq_true rfl, Nat.le_of_ble_eq_true rfl⟩) ⟨c_blind (eX_X t5 ad), fun U hU hW => c_pre (wc := []) (eX_X t5 ad) hE hK hP hD hS hA [] rfl (by decide) U hU hW⟩ rfl rfl hl.1 rfl (lv_room (Nat.le_of_ble_eq_true rfl)) d_Ed_shift_4 ⟨Nat.le_of_ble_eq_true rfl, Nat.le_of_ble_eq_true rfl⟩) hP hD hS hA [] [0, 1] rfl rfl (by decide) (by decide) (fun r u H locs hp hP hD hS => ?_)
  obtain ⟨rfl, rfl⟩ := hp
  have hP : va_P D ecl [(x, .inr (1, [.ref dg, .int (iI (zc)), .int (iI (pt)), .int (iI (zl)), .ref q])), (dg, .inl (cB, 1200, .inl g))] H := hP
  have hD : va_D A [(x, .inr (1, [.ref dg, .int (iI (zc)), .int (iI (pt)), .int (iI (zl)), .ref q])), (dg, .inl (cB, 1200, .inl g))] := hD
  obtain ⟨zb, hzb, hzb2⟩ : ∃ zb : Int, zb = (if n < -2200 ∨ 2200 < n then 1 else 0) ∧ ((zb = 1 ∧ (n < -2200 ∨ 2200 < n)) ∨ (zb = 0 ∧ ¬ (n < -2200 ∨ 2200 < n))) := ⟨_, rfl, by split <;> simp_all⟩
  refine ed_tz (y := zb) (hzb.symm) ?_
  refine ed_if_eq (tgt := 18) hx hb d_Ed_shift_7 rfl (by omega) (fun h_1 => ?_) (fun h_1 => ?_)
  · exact absurd h_1 (by omega)
  · skip
    refine ed_pc (pc' := 10) rfl ?_
    exact vx_throw0 (own := "ExactDigits") (cls := xIA) (names := xNm) (rest := []) hx hb hl0 hown (by decide +kernel) (by decide +kernel) (hts _ (List.mem_cons_of_mem _ tw_284)) (hts _ (List.mem_cons_of_mem _ tw_15)) (vx_hat (fun w h => hts w (List.mem_cons_of_mem _ (ta_IA w h))) tb_IA (eW_IA hE.2.2.2.2.2.2.2.2.2.2.2)) tg_IA hE.2.2.2.2.2.2.2.2.2.1 hE.2.2.2.2.2.2.2.2.2.2.1 hS (hl.1.trans hml.symm) d_Ed_shift_10 d_Ed_shift_13 d_Ed_shift_14 d_Ed_shift_17 (fun x h => (htab x h).elim) (Nat.le_of_ble_eq_true rfl) (Nat.le_of_ble_eq_true rfl) (Nat.le_of_ble_eq_true rfl) (Nat.le_of_ble_eq_true rfl) hlocks (fun t9 hv9 hz9 hk9 => c_xc hP hD hS hz9 hk9) hS.2.2 (Nat.le_of_ble_eq_true rfl) (Nat.le_of_ble_eq_true rfl)
end
section
/-! the nearest to V times 10 to ex, as the class makes it -/
def nP (V : Nat) (ex : Int) (kf : Nat) : Nat := V * 10 ^ ex.toNat * 2 ^ (-lez kf).toNat
def nM (ex : Int) : Nat := 10 ^ (-ex).toNat
theorem nM_pos (ex : Int) : 0 < nM ex := p10_pos _
theorem ns_zero (ex : Int) (kf : Nat) : 2 * nP 0 ex kf < nM ex := by
  have := nM_pos ex
  unfold nP
  simp
  exact this
theorem c_1075 : 2 ^ 1075 ≤ 10 ^ 331 := by decide +kernel
theorem c_310 : ∀ k, k < 2 → 2 ^ (fbz k + jz k) ≤ 10 ^ 310 * 2 ^ (-lez k).toNat := by decide +kernel
theorem ns_small {V L kf : Nat} {ex : Int} (hkf : kf < 2) (hV : V < 10 ^ L) (h : (L : Int) + ex < -330) : 2 * nP V ex kf < nM ex := by
  have hz := fz_all kf hkf
  unfold nP nM
  have e : ex.toNat = 0 := by omega
  rw [e, Nat.pow_zero, Nat.mul_one]
  have h1 : 2 ^ (-lez kf).toNat ≤ 2 ^ 1074 := Nat.pow_le_pow_right (by decide) (by omega)
  have h2 : V * 2 ^ (-lez kf).toNat < 10 ^ L * 2 ^ 1074 := Nat.lt_of_le_of_lt (Nat.mul_le_mul_left V h1) (Nat.mul_lt_mul_of_pos_right hV (p2_pos _))
  have h3 : 10 ^ L * 2 ^ 1074 * 2 ≤ 10 ^ (-ex).toNat := by
    rw [Nat.mul_assoc, ← Nat.pow_succ]
    refine Nat.le_trans (Nat.mul_le_mul_left _ c_1075) ?_
    rw [← Nat.pow_add]
    exact p10_le (by omega)
  omega
theorem ns_large {V L kf : Nat} {ex : Int} {b : Prop} (hkf : kf < 2) (hL : 0 < L) (hV : 10 ^ (L - 1) ≤ V) (h : 310 < (L : Int) + ex) : NR (fbz kf + 1) (ifz kf) (nP V ex kf) (nM ex) b (ifz kf) := by
  have hz := fz_all kf hkf
  refine NR_large (j := jz kf) (by omega) (by omega) (by rw [Nat.add_sub_cancel]; exact ifz_eq kf hkf) ?_
  have h1 : 2 ^ (fbz kf + jz kf) * nM ex ≤ nP V ex kf := by
    unfold nP nM
    have a1 : 10 ^ 310 * 10 ^ (-ex).toNat ≤ V * 10 ^ ex.toNat := by
      refine Nat.le_trans ?_ (Nat.mul_le_mul_right _ hV)
      rw [← Nat.pow_add, ← Nat.pow_add]
      exact p10_le (by omega)
    have a2 := Nat.mul_le_mul_right (10 ^ (-ex).toNat) (c_310 kf hkf)
    refine Nat.le_trans a2 ?_
    rw [Nat.mul_right_comm]
    exact Nat.mul_le_mul_right _ a1
  have h2 : 2 ^ (fbz kf + jz kf) ≤ nP V ex kf / nM ex := (Nat.le_div_iff_mul_le (nM_pos ex)).mpr h1
  have := bl_ge h2
  omega
theorem bt_all : ∀ i : Nat, i < 641 → 10 ^ ((i : Int) - 330).toNat * 2 ^ (60 - ((i : Int) - 330) * 217706 / 65536).toNat ≤ 2 ^ 62 * 10 ^ (330 - (i : Int)).toNat * 2 ^ (((i : Int) - 330) * 217706 / 65536 - 60).toNat ∧
    2 ^ 56 * 10 ^ ((330 - (i : Int)).toNat + 1) * 2 ^ (((i : Int) - 330) * 217706 / 65536 - 60).toNat ≤ 10 ^ ((i : Int) - 330).toNat * 2 ^ (60 - ((i : Int) - 330) * 217706 / 65536).toNat := by decide +kernel
theorem bt_ok {p k : Int} (hp : -330 ≤ p ∧ p ≤ 310) (hk : k = 60 - p * 217706 / 65536) : 10 ^ p.toNat * 2 ^ k.toNat ≤ 2 ^ 62 * 10 ^ (-p).toNat * 2 ^ (-k).toNat ∧ 2 ^ 56 * 10 ^ ((-p).toNat + 1) * 2 ^ (-k).toNat ≤ 10 ^ p.toNat * 2 ^ k.toNat := by
  have h := bt_all (p + 330).toNat (by omega)
  have e1 : (((p + 330).toNat : Nat) : Int) - 330 = p := by omega
  have e2 : 330 - (((p + 330).toNat : Nat) : Int) = -p := by omega
  have e3 : p * 217706 / 65536 - 60 = -k := by omega
  rw [e1, e2, e3, ← hk] at h
  exact h
section NearC
variable {V L kp km ep em up um a b : Nat}
theorem nc_w (h1 : km + up + em = um + ep) : V * (2 ^ kp * 5 ^ km) * 10 ^ up * (2 ^ km * 10 ^ em * 10 ^ b) = V * (2 ^ kp * 10 ^ um * 10 ^ ep * 10 ^ b) := by
  have e : 5 ^ km * 2 ^ km * 10 ^ up * 10 ^ em = 10 ^ um * 10 ^ ep := by
    rw [← Nat.mul_pow, show 5 * 2 = 10 from rfl, ← Nat.pow_add, ← Nat.pow_add, ← Nat.pow_add, h1]
  calc V * (2 ^ kp * 5 ^ km) * 10 ^ up * (2 ^ km * 10 ^ em * 10 ^ b) = (5 ^ km * 2 ^ km * 10 ^ up * 10 ^ em) * (V * 2 ^ kp * 10 ^ b) := by ac_rfl
    _ = (10 ^ um * 10 ^ ep) * (V * 2 ^ kp * 10 ^ b) := by rw [e]
    _ = V * (2 ^ kp * 10 ^ um * 10 ^ ep * 10 ^ b) := by ac_rfl
theorem nc_v (h2 : L + ep + b = a + em) : 10 ^ L * (2 ^ kp * 10 ^ um * 10 ^ ep * 10 ^ b) = 10 ^ a * 2 ^ kp * (10 ^ em * 10 ^ um) := by
  have e : 10 ^ L * 10 ^ ep * 10 ^ b = 10 ^ a * 10 ^ em := by rw [← Nat.pow_add, ← Nat.pow_add, ← Nat.pow_add, h2]
  calc 10 ^ L * (2 ^ kp * 10 ^ um * 10 ^ ep * 10 ^ b) = (10 ^ L * 10 ^ ep * 10 ^ b) * (2 ^ kp * 10 ^ um) := by ac_rfl
    _ = (10 ^ a * 10 ^ em) * (2 ^ kp * 10 ^ um) := by rw [e]
    _ = 10 ^ a * 2 ^ kp * (10 ^ em * 10 ^ um) := by ac_rfl
theorem nc_hi (h1 : km + up + em = um + ep) (h2 : L + ep + b = a + em) (hV : V < 10 ^ L) (hb : 10 ^ a * 2 ^ kp ≤ 2 ^ 62 * 10 ^ b * 2 ^ km) : V * (2 ^ kp * 5 ^ km) * 10 ^ up < 2 ^ 62 * 10 ^ um := by
  have hW : 0 < 2 ^ km * 10 ^ em * 10 ^ b := Nat.mul_pos (Nat.mul_pos (p2_pos _) (p10_pos _)) (p10_pos _)
  apply Nat.lt_of_mul_lt_mul_right (a := 2 ^ km * 10 ^ em * 10 ^ b)
  rw [nc_w h1]
  have hZ : 0 < 2 ^ kp * 10 ^ um * 10 ^ ep * 10 ^ b := Nat.mul_pos (Nat.mul_pos (Nat.mul_pos (p2_pos _) (p10_pos _)) (p10_pos _)) (p10_pos _)
  refine Nat.lt_of_lt_of_le (Nat.mul_lt_mul_of_pos_right hV hZ) ?_
  rw [nc_v h2]
  refine Nat.le_trans (Nat.mul_le_mul_right _ hb) (Nat.le_of_eq ?_)
  ac_rfl
theorem nc_lo (h1 : km + up + em = um + ep) (h2 : L + ep + b = a + em) (hL : 0 < L) (hV : 10 ^ (L - 1) ≤ V) (hb : 2 ^ 56 * 10 ^ (b + 1) * 2 ^ km ≤ 10 ^ a * 2 ^ kp) : 2 ^ 56 * 10 ^ um ≤ V * (2 ^ kp * 5 ^ km) * 10 ^ up := by
  have hW : 0 < 2 ^ km * 10 ^ em * 10 ^ b := Nat.mul_pos (Nat.mul_pos (p2_pos _) (p10_pos _)) (p10_pos _)
  have hW2 : 0 < 2 ^ km * 10 ^ em * 10 ^ b * 10 := Nat.mul_pos hW (by decide)
  apply Nat.le_of_mul_le_mul_right (c := 2 ^ km * 10 ^ em * 10 ^ b * 10) _ hW2
  have e1 : V * (2 ^ kp * 5 ^ km) * 10 ^ up * (2 ^ km * 10 ^ em * 10 ^ b * 10) = (V * 10) * (2 ^ kp * 10 ^ um * 10 ^ ep * 10 ^ b) := by
    rw [← Nat.mul_assoc (V * (2 ^ kp * 5 ^ km) * 10 ^ up), nc_w h1]; ac_rfl
  rw [e1]
  have e2 : 10 ^ L ≤ V * 10 := by
    have : L = L - 1 + 1 := by omega
    rw [this, Nat.pow_succ]; exact Nat.mul_le_mul_right _ hV
  refine Nat.le_trans ?_ (Nat.mul_le_mul_right _ e2)
  rw [nc_v h2]
  refine Nat.le_trans (Nat.le_of_eq ?_) (Nat.mul_le_mul_right _ hb)
  rw [Nat.pow_succ 10 b]; ac_rfl
theorem nc_x {Lz dp E : Nat} (h1 : km + up + em = um + ep) (h3 : Lz + dp + km = kp + E) : V * 10 ^ ep * 2 ^ Lz * (10 ^ um * 2 ^ dp) = V * (2 ^ kp * 5 ^ km) * 10 ^ up * (10 ^ em * 2 ^ E) := by
  have e1 : 10 ^ um * 10 ^ ep = 5 ^ km * 2 ^ km * 10 ^ up * 10 ^ em := by
    rw [← Nat.mul_pow, show 5 * 2 = 10 from rfl, ← Nat.pow_add, ← Nat.pow_add, ← Nat.pow_add, h1]
  have e2 : 2 ^ Lz * 2 ^ dp * 2 ^ km = 2 ^ kp * 2 ^ E := by rw [← Nat.pow_add, ← Nat.pow_add, ← Nat.pow_add, h3]
  calc V * 10 ^ ep * 2 ^ Lz * (10 ^ um * 2 ^ dp) = (10 ^ um * 10 ^ ep) * (V * (2 ^ Lz * 2 ^ dp)) := by ac_rfl
    _ = (5 ^ km * 2 ^ km * 10 ^ up * 10 ^ em) * (V * (2 ^ Lz * 2 ^ dp)) := by rw [e1]
    _ = (2 ^ Lz * 2 ^ dp * 2 ^ km) * (V * 5 ^ km * 10 ^ up * 10 ^ em) := by ac_rfl
    _ = (2 ^ kp * 2 ^ E) * (V * 5 ^ km * 10 ^ up * 10 ^ em) := by rw [e2]
    _ = V * (2 ^ kp * 5 ^ km) * 10 ^ up * (10 ^ em * 2 ^ E) := by ac_rfl
end NearC
theorem fd_num (V : Nat) (u : Int) : fd V (((dl V : Nat) : Int) + u).toNat = V * 10 ^ u.toNat / 10 ^ (-u).toNat := by
  unfold fd
  rcases Int.le_total 0 u with h | h
  · have e1 : (-u).toNat = 0 := by omega
    rw [e1, Nat.pow_zero, Nat.div_one]
    rcases Nat.eq_zero_or_pos u.toNat with z | z
    · rw [if_pos (by omega), z, Nat.pow_zero, Nat.mul_one]
      have : dl V - (((dl V : Nat) : Int) + u).toNat = 0 := by omega
      rw [this, Nat.pow_zero, Nat.div_one]
    · rw [if_neg (by omega)]
      have : (((dl V : Nat) : Int) + u).toNat - dl V = u.toNat := by omega
      rw [this]
  · have e1 : u.toNat = 0 := by omega
    rw [e1, Nat.pow_zero, Nat.mul_one, if_pos (by omega)]
    rcases Nat.lt_or_ge (dl V) (-u).toNat with z | z
    · have e2 : dl V - (((dl V : Nat) : Int) + u).toNat = dl V := by omega
      rw [e2, Nat.div_eq_of_lt (dl_lt V), Nat.div_eq_of_lt (Nat.lt_of_lt_of_le (dl_lt V) (p10_le (by omega)))]
    · have e2 : dl V - (((dl V : Nat) : Int) + u).toNat = (-u).toNat := by omega
      rw [e2]
theorem hdb_num (V : Nat) (u : Int) : (hdb V (-u) = 1 ∧ 0 < V * 10 ^ u.toNat % 10 ^ (-u).toNat) ∨ (hdb V (-u) = 0 ∧ V * 10 ^ u.toNat % 10 ^ (-u).toNat = 0) := by
  unfold hdb
  rcases Int.le_total 0 u with h | h
  · have e1 : (-u).toNat = 0 := by omega
    rw [e1, Nat.pow_zero]
    simp [Nat.mod_one]
  · have e1 : u.toNat = 0 := by omega
    rw [e1, Nat.pow_zero, Nat.mul_one]
    split
    · rename_i z; exact Or.inr ⟨rfl, z⟩
    · rename_i z; exact Or.inl ⟨rfl, by omega⟩
theorem nr_room {V : Nat} {k : Int} (h : dl V ≤ 1200) (hk : -1200 ≤ k ∧ k ≤ 1200) : V * tw2 k < 1000000000 ^ 306 := sh_room h (by omega)
end
section
set_option maxHeartbeats 4000000 in
set_option maxRecDepth 100000 in
theorem c_Ed_nearestToScratch (l : Launch) (D : va_G) (cB cI cJ : ClassId) (t5 : Nat) (ad : Nat → Nat) (x dg q pa : Nat) (g f : Nat → Int32) (sz V kf : Nat) (zc pt zl ex zm : Int) (hkf : kf < 2) (hV : nt_ok f sz V) (hV12 : dl V ≤ 1200) (hex : -10000000 ≤ ex ∧ ex ≤ 10000000) (hzm : zm = 0 ∨ zm = 1) : c_L l m_Ed_nearestToScratch (Cond.code m_Ed_nearestToScratch b_Ed_nearestToScratch 9 (some .long) :: gw) (rm_ 2 56) (eX t5 ad) D ecl (tyS cB cI cJ) [.ref x, .int (iI (ex)), .int (iI (zm)), .ref (ad kf)] [(x, .inr (1, [.ref dg, .int (iI (zc)), .int (iI (pt)), .int (iI (zl)), .ref q])), (dg, .inl (cB, 1200, .inl g)), (q, .inr (0, [.ref pa, .int (iI ((sz : Int)))])), (pa, .inl (cI, 306, .inl f))] (fun r u => (∃ rn : Nat, r = jI (rn : Int) ∧ NR (fbz kf + 1) (ifz kf) (nP V ex kf) (nM ex) (zm = 1) rn) ∧ ∃ (f' : Nat → Int32) (zs' : Int), u = [(x, .inr (1, [.ref dg, .int (iI (zc)), .int (iI (pt)), .int (iI (zl)), .ref q])), (dg, .inl (cB, 1200, .inl g)), (q, .inr (0, [.ref pa, .int (iI (zs'))])), (pa, .inl (cI, 306, .inl f'))]) 0 0 := by
  intro sz0
  refine Met.ofW (cc := b_Ed_nearestToScratch) (maxL := 9) (ret := (some .long)) (by decide) rfl ?_
  intro p e s m args below meth c s₁ B hml hv
  obtain ⟨rfl, hsz, hP, hK, hD0, hE⟩ := hv
  have hx := B.exec
  have hb := B.bytes
  have hr := B.returns
  have hts := atoms_spec (ws := Cond.code m_Ed_nearestToScratch b_Ed_nearestToScratch 9 (some .long) :: gw) B.pre
  have hown : s.vm.findClass R_Ed = some m.cls := findClass_of_methodNamed B.named
  have hlocks := B.notSynchronized
  subst hsz
  have hD := hD0.self (sz := s.heap.size)
  generalize hAe : va_A [(x, .inr (1, [.ref dg, .int (iI (zc)), .int (iI (pt)), .int (iI (zl)), .ref q])), (dg, .inl (cB, 1200, .inl g)), (q, .inr (0, [.ref pa, .int (iI ((sz : Int)))])), (pa, .inl (cI, 306, .inl f))] s.heap.size = A at hD hE ⊢
  have hA : ∀ q : Nat, s.heap.size ≤ q → A q := fun q h => by rw [← hAe]; exact Or.inr h
  have hS : va_S A s.heap s.heap [] := va_S.rf
  have hl := lv_entry ([.ref x, .int (iI (ex)), .int (iI (zm)), .ref (ad kf)]) (n := 9) (Nat.le_of_ble_eq_true rfl)
  rw [lg_entry_eq]
  generalize (lg_sl ([.ref x, .int (iI (ex)), .int (iI (zm)), .ref (ad kf)]) ++ List.replicate (9 - (lg_sl ([.ref x, .int (iI (ex)), .int (iI (zm)), .ref (ad kf)])).length) Slot.unset).toArray = ls at hl ⊢
  have hl : lv_has ls 9 [(0, .ref x), (1, .int (iI (ex))), (2, .int (iI (zm))), (3, .ref (ad kf))] := hl
  have hE0 := hE
  obtain ⟨hE1, hE2, hE3, hE4, hE5, hE6, hE7, hE8, hE9, hE10, hE11, hE12⟩ := hE0
  have hfz := fz_all kf hkf
  have hd0 : dl V = 0 ↔ V = 0 := ⟨fun z => dl_eq0 z, fun z => by rw [z, dl_0]⟩
  have hVl := dl_lt V
  have L110 : ∀ (s2 : Nat) (f2 : Nat → Int32) (kk : Int) (h : Nat) (num : Nat) (tt : Nat) (rem : Nat) (zb : Int) (zk : Int) (zs2 : Int) (ls : Array Slot) (H : Heap) (locs : List Loc), (zk = kk) → (-2000 ≤ kk ∧ kk ≤ 2000) → (2 ^ 56 ≤ h) → (h < 2 ^ 62) → (0 < tt) → (num = h * tt + rem) → (rem < tt) → ((zb = 1 ∧ (zm = 1 ∨ 0 < rem)) ∨ (zb = 0 ∧ ¬ (zm = 1 ∨ 0 < rem))) → (∀ dp E : Nat, (E : Int) = -kk + dp - lez kf → nP V ex kf * (tt * 2 ^ dp) = num * (nM ex * 2 ^ E)) → lv_has ls 9 [(5, .int (iI (zk)))] → va_P D ecl [(x, .inr (1, [.ref dg, .int (iI (zc)), .int (iI (pt)), .int (iI (zl)), .ref q])), (dg, .inl (cB, 1200, .inl g)), (q, .inr (0, [.ref pa, .int (iI (zs2))])), (pa, .inl (cI, 306, .inl f2))] H → va_D A [(x, .inr (1, [.ref dg, .int (iI (zc)), .int (iI (pt)), .int (iI (zl)), .ref q])), (dg, .inl (cB, 1200, .inl g)), (q, .inr (0, [.ref pa, .int (iI (zs2))])), (pa, .inl (cI, 306, .inl f2))] → va_S A s.heap H locs → W p l e (headSpec (Cond.code m_Ed_nearestToScratch b_Ed_nearestToScratch 9 (some .long) :: gw) (rm_ 2 56)).room s m ([.ref x, .int (iI (ex)), .int (iI (zm)), .ref (ad kf)] : List Value).toArray below meth c H locs 0 0 (MQ below (va_Ql (fun r u => (∃ rn : Nat, r = jI (rn : Int) ∧ NR (fbz kf + 1) (ifz kf) (nP V ex kf) (nM ex) (zm = 1) rn) ∧ ∃ (f' : Nat → Int32) (zs' : Int), u = [(x, .inr (1, [.ref dg, .int (iI (zc)), .int (iI (pt)), .int (iI (zl)), .ref q])), (dg, .inl (cB, 1200, .inl g)), (q, .inr (0, [.ref pa, .int (iI (zs'))])), (pa, .inl (cI, 306, .inl f'))]) (c_B D ecl A) A) ([.ref x, .int (iI (ex)), .int (iI (zm)), .ref (ad kf)] : List Value).toArray s 0 0 A) (F0 m 110 ls [.int (iI (zb)), .long (jI ((h : Int))), .ref (ad kf)]) := by
    intro s2 f2 kk h num tt rem zb zk zs2 ls H locs hzk hkr hh1 hh2 htt hnum hrem hzb hXX hl hP hD hS
    refine lv_iload hx hb d_Ed_nearestToScratch_110 (lv_at hl 0 rfl) ?_
    refine ed_ineg hx hb d_Ed_nearestToScratch_112 ?_
    refine c_fl (wc := []) (wr := [(x, .inr (1, [.ref dg, .int (iI (zc)), .int (iI (pt)), .int (iI (zl)), .ref q])), (dg, .inl (cB, 1200, .inl g)), (q, .inr (0, [.ref pa, .int (iI (zs2))])), (pa, .inl (cI, 306, .inl f2))]) (va_runV (C := "ExactDigits$Format") (As := [.long (jI ((h : Int))), .int (iI (zb)), .int (iI (-(zk)))]) (rest := []) ⟨hx, hb, hml, hown, hts⟩ (c_Fo_nearestTo l D cB cI cJ t5 ad kf h zb (-zk) (nP V ex kf) (nM ex) num tt rem (zm = 1) hkf hh1 hh2 (by omega) (nM_pos ex) htt hnum hrem hzb (by rw [hzk]; exact hXX) H.size) (cwV 3 hts (gV tw_138 tw_139 tw_140 tw_10 tw_141) rfl rfl rfl (by decide +kernel) ⟨Nat.le_of_ble_eq_true rfl, Nat.le_of_ble_eq_true rfl⟩) ⟨c_blind (eX_X t5 ad), va_Orecv (hE5 kf hkf) hS, fun U hU hW => c_pre (wc := []) (eX_X t5 ad) hE hK hP hD hS hA [] rfl (by decide) U hU hW⟩ rfl rfl hl.1 rfl (lv_room (Nat.le_of_ble_eq_true rfl)) d_Ed_nearestToScratch_113 ⟨Nat.le_of_ble_eq_true rfl, Nat.le_of_ble_eq_true rfl⟩) hP hD hS hA [] [0, 1, 2, 3] rfl rfl (by decide) (by decide) (fun r u H locs hp hP hD hS => ?_)
    obtain ⟨⟨rn, rfl, hNR⟩, rfl⟩ := hp
    have hP : va_P D ecl [(x, .inr (1, [.ref dg, .int (iI (zc)), .int (iI (pt)), .int (iI (zl)), .ref q])), (dg, .inl (cB, 1200, .inl g)), (q, .inr (0, [.ref pa, .int (iI (zs2))])), (pa, .inl (cI, 306, .inl f2))] H := hP
    have hD : va_D A [(x, .inr (1, [.ref dg, .int (iI (zc)), .int (iI (pt)), .int (iI (zl)), .ref q])), (dg, .inl (cB, 1200, .inl g)), (q, .inr (0, [.ref pa, .int (iI (zs2))])), (pa, .inl (cI, 306, .inl f2))] := hD
    exact W.lret (v := (jI ((rn : Int)))) hx hb hr (fun t9 ht9 hW9 => ⟨⟨(jI ((rn : Int))), [(x, .inr (1, [.ref dg, .int (iI (zc)), .int (iI (pt)), .int (iI (zl)), .ref q])), (dg, .inl (cB, 1200, .inl g)), (q, .inr (0, [.ref pa, .int (iI (zs2))])), (pa, .inl (cI, 306, .inl f2))], rfl, ⟨⟨rn, rfl, hNR⟩, f2, _, rfl⟩, by rw [ht9]; exact hP, hD⟩, hS.F ht9⟩) hS.2.2 d_Ed_nearestToScratch_116
  refine lv_aload_n hx hb d_Ed_nearestToScratch_0 rfl (lv_at hl 0 rfl) ?_
  refine va_get (D := D) (ci := 1) (v := .ref q) (C := R_Ed) (T := T_Ed) (N := 5) hx hb hts (fun w h => List.mem_cons_of_mem _ (in_Ed w h)) hown hK hP 0 rfl rfl 4 (by decide) (hts _ (List.mem_cons_of_mem _ tw_44)) (fun _ h9 => h9) rfl d_Ed_nearestToScratch_1 ?_
  refine c_fi (wc := [(q, .inr (0, [.ref pa, .int (iI ((sz : Int)))])), (pa, .inl (cI, 306, .inl f))]) (wr := [(x, .inr (1, [.ref dg, .int (iI (zc)), .int (iI (pt)), .int (iI (zl)), .ref q])), (dg, .inl (cB, 1200, .inl g))]) (va_runV (C := "ExactDigits$Natural") (As := []) (rest := []) ⟨hx, hb, hml, hown, hts⟩ (c_Na_length l D cB cI cJ t5 ad q pa f sz V hV s.heap.size) (cwV 0 hts (gV tw_70 tw_71 tw_72 tw_2 tw_73) rfl rfl rfl (by decide +kernel) ⟨Nat.le_of_ble_eq_true rfl, Nat.le_of_ble_eq_true rfl⟩) ⟨c_blind (eX_X t5 ad), va_recv (ci := 0) (q0 := 2) hK hP rfl rfl, fun U hU hW => c_pre (wc := [(q, .inr (0, [.ref pa, .int (iI ((sz : Int)))])), (pa, .inl (cI, 306, .inl f))]) (eX_X t5 ad) hE hK hP hD hS hA [2, 3] rfl (by decide) U hU hW⟩ rfl rfl hl.1 rfl (lv_room (Nat.le_of_ble_eq_true rfl)) d_Ed_nearestToScratch_4 ⟨Nat.le_of_ble_eq_true rfl, Nat.le_of_ble_eq_true rfl⟩) hP hD hS hA [2, 3] [0, 1] rfl rfl (by decide) (by decide) (fun r u H locs hp hP hD hS => ?_)
  obtain ⟨rfl, rfl⟩ := hp
  have hP : va_P D ecl [(x, .inr (1, [.ref dg, .int (iI (zc)), .int (iI (pt)), .int (iI (zl)), .ref q])), (dg, .inl (cB, 1200, .inl g)), (q, .inr (0, [.ref pa, .int (iI ((sz : Int)))])), (pa, .inl (cI, 306, .inl f))] H := hP
  have hD : va_D A [(x, .inr (1, [.ref dg, .int (iI (zc)), .int (iI (pt)), .int (iI (zl)), .ref q])), (dg, .inl (cB, 1200, .inl g)), (q, .inr (0, [.ref pa, .int (iI ((sz : Int)))])), (pa, .inl (cI, 306, .inl f))] := hD
  refine lv_istore hx hb d_Ed_nearestToScratch_7 hl (by decide) rfl (fun ls hl => ?_)
  have hl : lv_has ls 9 [(4, .int (iI (((dl V : Nat) : Int)))), (0, .ref x), (1, .int (iI (ex))), (2, .int (iI (zm))), (3, .ref (ad kf))] := hl
  refine lv_iload hx hb d_Ed_nearestToScratch_9 (lv_at hl 0 rfl) ?_
  refine ed_if_eq (tgt := 24) hx hb d_Ed_nearestToScratch_11 rfl (by omega) (fun h_1 => ?_) (fun h_1 => ?_)
  · skip
    refine ed_pc (pc' := 24) rfl ?_
    refine lv_lconst (v := jI 0) hx hb d_Ed_nearestToScratch_24 (by decide +kernel) ?_
    have hsm : 2 * nP V ex kf < nM ex := by
      rcases Nat.eq_zero_or_pos V with z | z
      · rw [z]; exact ns_zero ex kf
      · exact ns_small hkf hVl (by have := dl_pos z; omega)
    have hP := hP.sub (ws' := [(x, .inr (1, [.ref dg, .int (iI (zc)), .int (iI (pt)), .int (iI (zl)), .ref q])), (dg, .inl (cB, 1200, .inl g)), (q, .inr (0, [.ref pa, .int (iI ((sz : Int)))])), (pa, .inl (cI, 306, .inl f))]) [0, 1, 2, 3] rfl
    have hD := hD.sub (ws' := [(x, .inr (1, [.ref dg, .int (iI (zc)), .int (iI (pt)), .int (iI (zl)), .ref q])), (dg, .inl (cB, 1200, .inl g)), (q, .inr (0, [.ref pa, .int (iI ((sz : Int)))])), (pa, .inl (cI, 306, .inl f))]) [0, 1, 2, 3] (by decide) rfl
    exact W.lret (v := (jI (0))) hx hb hr (fun t9 ht9 hW9 => ⟨⟨(jI (0)), [(x, .inr (1, [.ref dg, .int (iI (zc)), .int (iI (pt)), .int (iI (zl)), .ref q])), (dg, .inl (cB, 1200, .inl g)), (q, .inr (0, [.ref pa, .int (iI ((sz : Int)))])), (pa, .inl (cI, 306, .inl f))], rfl, ⟨⟨0, rfl, NR_small hsm⟩, f, _, rfl⟩, by rw [ht9]; exact hP, hD⟩, hS.F ht9⟩) hS.2.2 d_Ed_nearestToScratch_25
  · skip
    refine ed_pc (pc' := 14) rfl ?_
    refine lv_iload hx hb d_Ed_nearestToScratch_14 (lv_at hl 0 rfl) ?_
    refine ed_pc (pc' := 16) rfl ?_
    refine lv_iload_n hx hb d_Ed_nearestToScratch_16 rfl (lv_at hl 2 rfl) ?_
    refine ed_iadd hx hb d_Ed_nearestToScratch_17 ?_
    refine lv_sipush (v := iI (-330)) hx hb d_Ed_nearestToScratch_18 (by decide +kernel) ?_
    refine ed_icmp_ge (tgt := 26) hx hb d_Ed_nearestToScratch_21 rfl (by omega) (by omega) (fun h_2 => ?_) (fun h_2 => ?_)
    · skip
      refine ed_pc (pc' := 26) rfl ?_
      refine lv_iload hx hb d_Ed_nearestToScratch_26 (lv_at hl 0 rfl) ?_
      refine lv_iload_n hx hb d_Ed_nearestToScratch_28 rfl (lv_at hl 2 rfl) ?_
      refine ed_iadd hx hb d_Ed_nearestToScratch_29 ?_
      refine lv_sipush (v := iI 310) hx hb d_Ed_nearestToScratch_30 (by decide +kernel) ?_
      refine ed_pc (pc' := 33) rfl ?_
      refine ed_icmp_le (tgt := 41) hx hb d_Ed_nearestToScratch_33 rfl (by omega) (by omega) (fun h_3 => ?_) (fun h_3 => ?_)
      · skip
        refine ed_pc (pc' := 41) rfl ?_
        refine lv_bipush (v := iI 60) hx hb d_Ed_nearestToScratch_41 (by decide +kernel) ?_
        refine lv_iload hx hb d_Ed_nearestToScratch_43 (lv_at hl 0 rfl) ?_
        refine lv_iload_n hx hb d_Ed_nearestToScratch_45 rfl (lv_at hl 2 rfl) ?_
        refine ed_iadd hx hb d_Ed_nearestToScratch_46 ?_
        refine c_fi (wc := []) (wr := [(x, .inr (1, [.ref dg, .int (iI (zc)), .int (iI (pt)), .int (iI (zl)), .ref q])), (dg, .inl (cB, 1200, .inl g)), (q, .inr (0, [.ref pa, .int (iI ((sz : Int)))])), (pa, .inl (cI, 306, .inl f))]) (va_runS (As := [.int (iI ((((dl V : Nat) : Int)) + (ex)))]) (rest := [.int (iI (60))]) ⟨hx, hb, hml, hown, hts⟩ (c_Ed_bitsOfTenTo l D cB cI cJ t5 ad (((dl V : Nat) : Int) + (ex)) (by omega) H.size) (va_cwS 1 hts (gS tw_114 tw_115 tw_1 tw_116) rfl rfl rfl (by decide +kernel) ⟨Nat.le_of_ble_eq_true rfl, Nat.le_of_ble_eq_true rfl⟩) ⟨c_blind (eX_X t5 ad), fun U hU hW => c_pre (wc := []) (eX_X t5 ad) hE hK hP hD hS hA [] rfl (by decide) U hU hW⟩ rfl rfl hl.1 rfl (lv_room (Nat.le_of_ble_eq_true rfl)) d_Ed_nearestToScratch_47 ⟨Nat.le_of_ble_eq_true rfl, Nat.le_of_ble_eq_true rfl⟩) hP hD hS hA [] [0, 1, 2, 3] rfl rfl (by decide) (by decide) (fun r u H locs hp hP hD hS => ?_)
        obtain ⟨rfl, rfl⟩ := hp
        have hP : va_P D ecl [(x, .inr (1, [.ref dg, .int (iI (zc)), .int (iI (pt)), .int (iI (zl)), .ref q])), (dg, .inl (cB, 1200, .inl g)), (q, .inr (0, [.ref pa, .int (iI ((sz : Int)))])), (pa, .inl (cI, 306, .inl f))] H := hP
        have hD : va_D A [(x, .inr (1, [.ref dg, .int (iI (zc)), .int (iI (pt)), .int (iI (zl)), .ref q])), (dg, .inl (cB, 1200, .inl g)), (q, .inr (0, [.ref pa, .int (iI ((sz : Int)))])), (pa, .inl (cI, 306, .inl f))] := hD
        refine ed_isub hx hb d_Ed_nearestToScratch_50 ?_
        obtain ⟨k, hk⟩ : ∃ k : Int, k = 60 - (((dl V : Nat) : Int) + ex) * 217706 / 65536 := ⟨_, rfl⟩
        have hVp : 0 < V := by rcases Nat.eq_zero_or_pos V with z | z; exact absurd (hd0.mpr z) (by omega); exact z
        have hkr : -1200 ≤ k ∧ k ≤ 1200 := by omega
        obtain ⟨hb1, hb2⟩ := bt_ok (p := ((dl V : Nat) : Int) + ex) (by omega) hk
        have hXR := nr_room hV12 hkr
        refine ed_tz (y := k) (by rw [hk]) ?_
        refine lv_istore hx hb d_Ed_nearestToScratch_51 hl (by decide) rfl (fun ls hl => ?_)
        have hl : lv_has ls 9 [(5, .int (iI (k))), (4, .int (iI (((dl V : Nat) : Int)))), (0, .ref x), (1, .int (iI (ex))), (2, .int (iI (zm))), (3, .ref (ad kf))] := hl
        refine ed_pc (pc' := 53) rfl ?_
        refine lv_iload_n hx hb d_Ed_nearestToScratch_53 rfl (lv_at hl 3 rfl) ?_
        refine lv_aload_n hx hb d_Ed_nearestToScratch_54 rfl (lv_at hl 2 rfl) ?_
        refine va_get (D := D) (ci := 1) (v := .ref q) (C := R_Ed) (T := T_Ed) (N := 5) hx hb hts (fun w h => List.mem_cons_of_mem _ (in_Ed w h)) hown hK hP 0 rfl rfl 4 (by decide) (hts _ (List.mem_cons_of_mem _ tw_44)) (fun _ h9 => h9) rfl d_Ed_nearestToScratch_55 ?_
        refine lv_iload hx hb d_Ed_nearestToScratch_58 (lv_at hl 0 rfl) ?_
        refine c_fi (wc := [(q, .inr (0, [.ref pa, .int (iI ((sz : Int)))])), (pa, .inl (cI, 306, .inl f))]) (wr := [(x, .inr (1, [.ref dg, .int (iI (zc)), .int (iI (pt)), .int (iI (zl)), .ref q])), (dg, .inl (cB, 1200, .inl g))]) (va_runV (C := "ExactDigits$Natural") (As := [.int (iI (k))]) (rest := [.int (iI (ex))]) ⟨hx, hb, hml, hown, hts⟩ (c_Na_timesTwoTo l D cB cI cJ t5 ad q pa f sz V k (by omega) hV hXR H.size) (cwV 1 hts (gV tw_118 tw_119 tw_120 tw_2 tw_121) rfl rfl rfl (by decide +kernel) ⟨Nat.le_of_ble_eq_true rfl, Nat.le_of_ble_eq_true rfl⟩) ⟨c_blind (eX_X t5 ad), va_recv (ci := 0) (q0 := 2) hK hP rfl rfl, fun U hU hW => c_pre (wc := [(q, .inr (0, [.ref pa, .int (iI ((sz : Int)))])), (pa, .inl (cI, 306, .inl f))]) (eX_X t5 ad) hE hK hP hD hS hA [2, 3] rfl (by decide) U hU hW⟩ rfl rfl hl.1 rfl (lv_room (Nat.le_of_ble_eq_true rfl)) d_Ed_nearestToScratch_60 ⟨Nat.le_of_ble_eq_true rfl, Nat.le_of_ble_eq_true rfl⟩) hP hD hS hA [2, 3] [0, 1] rfl rfl (by decide) (by decide) (fun r u H locs hp hP hD hS => ?_)
        obtain ⟨rfl, f2, s2, rfl, hok2⟩ := hp
        have hP : va_P D ecl [(x, .inr (1, [.ref dg, .int (iI (zc)), .int (iI (pt)), .int (iI (zl)), .ref q])), (dg, .inl (cB, 1200, .inl g)), (q, .inr (0, [.ref pa, .int (iI ((s2 : Int)))])), (pa, .inl (cI, 306, .inl f2))] H := hP
        have hD : va_D A [(x, .inr (1, [.ref dg, .int (iI (zc)), .int (iI (pt)), .int (iI (zl)), .ref q])), (dg, .inl (cB, 1200, .inl g)), (q, .inr (0, [.ref pa, .int (iI ((s2 : Int)))])), (pa, .inl (cI, 306, .inl f2))] := hD
        refine ed_iadd hx hb d_Ed_nearestToScratch_63 ?_
        obtain ⟨un, hun⟩ : ∃ un : Int, un = ex + min k 0 := ⟨_, rfl⟩
        refine ed_tz (y := un) (by rw [hun]) ?_
        have g1 : (-k).toNat + un.toNat + (-ex).toNat = (-un).toNat + ex.toNat := by omega
        have g2 : dl V + ex.toNat + (-(((dl V : Nat) : Int) + ex)).toNat = (((dl V : Nat) : Int) + ex).toNat + (-ex).toNat := by omega
        have hhi := nc_hi g1 g2 hVl hb1
        have hlo := nc_lo g1 g2 (dl_pos hVp) (dl_le hVp) hb2
        have htw : V * tw2 k = V * (2 ^ k.toNat * 5 ^ (-k).toNat) := rfl
        rw [← htw] at hhi hlo
        obtain ⟨h, hh⟩ : ∃ h : Nat, h = V * tw2 k * 10 ^ un.toNat / 10 ^ (-un).toNat := ⟨_, rfl⟩
        obtain ⟨rem, hrm⟩ : ∃ rem : Nat, rem = V * tw2 k * 10 ^ un.toNat % 10 ^ (-un).toNat := ⟨_, rfl⟩
        obtain ⟨num, hnm⟩ : ∃ num : Nat, num = V * tw2 k * 10 ^ un.toNat := ⟨_, rfl⟩
        obtain ⟨tt, htt0⟩ : ∃ tt : Nat, tt = 10 ^ (-un).toNat := ⟨_, rfl⟩
        have htt : 0 < tt := by rw [htt0]; exact p10_pos _
        have hfd := fd_num (V * tw2 k) un
        have hhd := hdb_num (V * tw2 k) un
        have hXX : ∀ dp E : Nat, (E : Int) = -k + dp - lez kf → nP V ex kf * (tt * 2 ^ dp) = num * (nM ex * 2 ^ E) := fun dp E hEE => by
          rw [htt0, hnm, htw]; exact nc_x g1 (by omega)
        rw [← hh] at hfd
        rw [← hrm] at hhd
        rw [← hnm, ← htt0] at hhi hlo hh hrm
        have hnum : num = h * tt + rem := by rw [hh, hrm, Nat.mul_comm]; exact (Nat.div_add_mod _ _).symm
        have hrem : rem < tt := by rw [hrm]; exact Nat.mod_lt _ htt
        have hh2 : h < 2 ^ 62 := by rw [hh]; exact (Nat.div_lt_iff_lt_mul htt).mpr hhi
        have hh1 : 2 ^ 56 ≤ h := by rw [hh]; exact (Nat.le_div_iff_mul_le htt).mpr hlo
        have hdl2 : dl (V * tw2 k) ≤ 2754 := by
          have hV2 := hok2.2.1
          rw [pB_10] at hV2
          exact dl_bound (Nat.lt_of_lt_of_le hV2 (p10_le (by have := hok2.1; omega)))
        clear hb1 hb2 hhi hlo hh hrm hnm htt0
        have hs4 := hok2.1
        refine lv_istore hx hb d_Ed_nearestToScratch_64 hl (by decide) rfl (fun ls hl => ?_)
        have hl : lv_has ls 9 [(6, .int (iI (un))), (5, .int (iI (k))), (4, .int (iI (((dl V : Nat) : Int)))), (0, .ref x), (1, .int (iI (ex))), (2, .int (iI (zm))), (3, .ref (ad kf))] := hl
        refine lv_aload_n hx hb d_Ed_nearestToScratch_66 rfl (lv_at hl 3 rfl) ?_
        refine ed_pc (pc' := 67) rfl ?_
        refine va_get (D := D) (ci := 1) (v := .ref q) (C := R_Ed) (T := T_Ed) (N := 5) hx hb hts (fun w h => List.mem_cons_of_mem _ (in_Ed w h)) hown hK hP 0 rfl rfl 4 (by decide) (hts _ (List.mem_cons_of_mem _ tw_44)) (fun _ h9 => h9) rfl d_Ed_nearestToScratch_67 ?_
        refine lv_aload_n hx hb d_Ed_nearestToScratch_70 rfl (lv_at hl 3 rfl) ?_
        refine va_get (D := D) (ci := 1) (v := .ref q) (C := R_Ed) (T := T_Ed) (N := 5) hx hb hts (fun w h => List.mem_cons_of_mem _ (in_Ed w h)) hown hK hP 0 rfl rfl 4 (by decide) (hts _ (List.mem_cons_of_mem _ tw_44)) (fun _ h9 => h9) rfl d_Ed_nearestToScratch_71 ?_
        refine c_fi (wc := [(q, .inr (0, [.ref pa, .int (iI ((s2 : Int)))])), (pa, .inl (cI, 306, .inl f2))]) (wr := [(x, .inr (1, [.ref dg, .int (iI (zc)), .int (iI (pt)), .int (iI (zl)), .ref q])), (dg, .inl (cB, 1200, .inl g))]) (va_runV (C := "ExactDigits$Natural") (As := []) (rest := [.ref q]) ⟨hx, hb, hml, hown, hts⟩ (c_Na_length l D cB cI cJ t5 ad q pa f2 s2 (V * tw2 k) hok2 H.size) (cwV 0 hts (gV tw_70 tw_71 tw_72 tw_2 tw_73) rfl rfl rfl (by decide +kernel) ⟨Nat.le_of_ble_eq_true rfl, Nat.le_of_ble_eq_true rfl⟩) ⟨c_blind (eX_X t5 ad), va_recv (ci := 0) (q0 := 2) hK hP rfl rfl, fun U hU hW => c_pre (wc := [(q, .inr (0, [.ref pa, .int (iI ((s2 : Int)))])), (pa, .inl (cI, 306, .inl f2))]) (eX_X t5 ad) hE hK hP hD hS hA [2, 3] rfl (by decide) U hU hW⟩ rfl rfl hl.1 rfl (lv_room (Nat.le_of_ble_eq_true rfl)) d_Ed_nearestToScratch_74 ⟨Nat.le_of_ble_eq_true rfl, Nat.le_of_ble_eq_true rfl⟩) hP hD hS hA [2, 3] [0, 1] rfl rfl (by decide) (by decide) (fun r u H locs hp hP hD hS => ?_)
        obtain ⟨rfl, rfl⟩ := hp
        have hP : va_P D ecl [(x, .inr (1, [.ref dg, .int (iI (zc)), .int (iI (pt)), .int (iI (zl)), .ref q])), (dg, .inl (cB, 1200, .inl g)), (q, .inr (0, [.ref pa, .int (iI ((s2 : Int)))])), (pa, .inl (cI, 306, .inl f2))] H := hP
        have hD : va_D A [(x, .inr (1, [.ref dg, .int (iI (zc)), .int (iI (pt)), .int (iI (zl)), .ref q])), (dg, .inl (cB, 1200, .inl g)), (q, .inr (0, [.ref pa, .int (iI ((s2 : Int)))])), (pa, .inl (cI, 306, .inl f2))] := hD
        refine lv_iload hx hb d_Ed_nearestToScratch_77 (lv_at hl 0 rfl) ?_
        refine ed_iadd hx hb d_Ed_nearestToScratch_79 ?_
        refine c_fl (wc := [(q, .inr (0, [.ref pa, .int (iI ((s2 : Int)))])), (pa, .inl (cI, 306, .inl f2))]) (wr := [(x, .inr (1, [.ref dg, .int (iI (zc)), .int (iI (pt)), .int (iI (zl)), .ref q])), (dg, .inl (cB, 1200, .inl g))]) (va_runV (C := "ExactDigits$Natural") (As := [.int (iI ((((dl (V * tw2 k) : Nat) : Int)) + (un)))]) (rest := []) ⟨hx, hb, hml, hown, hts⟩ (c_Na_firstDigits l D cB cI cJ t5 ad q pa f2 s2 (V * tw2 k) (((dl (V * tw2 k) : Nat) : Int) + (un)) (by omega) hok2 (by rw [hfd]; omega) H.size) (cwV 1 hts (gV tw_128 tw_129 tw_130 tw_2 tw_131) rfl rfl rfl (by decide +kernel) ⟨Nat.le_of_ble_eq_true rfl, Nat.le_of_ble_eq_true rfl⟩) ⟨c_blind (eX_X t5 ad), va_recv (ci := 0) (q0 := 2) hK hP rfl rfl, fun U hU hW => c_pre (wc := [(q, .inr (0, [.ref pa, .int (iI ((s2 : Int)))])), (pa, .inl (cI, 306, .inl f2))]) (eX_X t5 ad) hE hK hP hD hS hA [2, 3] rfl (by decide) U hU hW⟩ rfl rfl hl.1 rfl (lv_room (Nat.le_of_ble_eq_true rfl)) d_Ed_nearestToScratch_80 ⟨Nat.le_of_ble_eq_true rfl, Nat.le_of_ble_eq_true rfl⟩) hP hD hS hA [2, 3] [0, 1] rfl rfl (by decide) (by decide) (fun r u H locs hp hP hD hS => ?_)
        obtain ⟨rfl, rfl⟩ := hp
        have hP : va_P D ecl [(x, .inr (1, [.ref dg, .int (iI (zc)), .int (iI (pt)), .int (iI (zl)), .ref q])), (dg, .inl (cB, 1200, .inl g)), (q, .inr (0, [.ref pa, .int (iI ((s2 : Int)))])), (pa, .inl (cI, 306, .inl f2))] H := hP
        have hD : va_D A [(x, .inr (1, [.ref dg, .int (iI (zc)), .int (iI (pt)), .int (iI (zl)), .ref q])), (dg, .inl (cB, 1200, .inl g)), (q, .inr (0, [.ref pa, .int (iI ((s2 : Int)))])), (pa, .inl (cI, 306, .inl f2))] := hD
        refine ed_tj (y := (h : Int)) (by rw [hfd]) ?_
        refine lv_lstore hx hb d_Ed_nearestToScratch_83 hl (by decide) rfl (fun ls hl => ?_)
        have hl : lv_has ls 9 [(7, .long (jI ((h : Int)))), (6, .int (iI (un))), (5, .int (iI (k))), (4, .int (iI (((dl V : Nat) : Int)))), (0, .ref x), (1, .int (iI (ex))), (2, .int (iI (zm))), (3, .ref (ad kf))] := hl
        refine ed_pc (pc' := 85) rfl ?_
        refine lv_aload_n hx hb d_Ed_nearestToScratch_85 rfl (lv_at hl 7 rfl) ?_
        refine lv_lload hx hb d_Ed_nearestToScratch_86 (lv_at hl 0 rfl) ?_
        refine lv_iload_n hx hb d_Ed_nearestToScratch_88 rfl (lv_at hl 6 rfl) ?_
        refine ed_if_ne (tgt := 105) hx hb d_Ed_nearestToScratch_89 rfl (by omega) (fun h_4 => ?_) (fun h_4 => ?_)
        · skip
          refine ed_pc (pc' := 105) rfl ?_
          refine lv_iconst (v := iI 1) hx hb d_Ed_nearestToScratch_105 rfl ?_
          refine lv_goto (tgt := 110) hx hb d_Ed_nearestToScratch_106 rfl ?_
          have hP := hP.sub (ws' := [(x, .inr (1, [.ref dg, .int (iI (zc)), .int (iI (pt)), .int (iI (zl)), .ref q])), (dg, .inl (cB, 1200, .inl g)), (q, .inr (0, [.ref pa, .int (iI ((s2 : Int)))])), (pa, .inl (cI, 306, .inl f2))]) [0, 1, 2, 3] rfl
          have hD := hD.sub (ws' := [(x, .inr (1, [.ref dg, .int (iI (zc)), .int (iI (pt)), .int (iI (zl)), .ref q])), (dg, .inl (cB, 1200, .inl g)), (q, .inr (0, [.ref pa, .int (iI ((s2 : Int)))])), (pa, .inl (cI, 306, .inl f2))]) [0, 1, 2, 3] (by decide) rfl
          have hl := lv_sub hl [2] rfl
          exact L110 (s2) (f2) (k) (h) (num) (tt) (rem) _ _ _ ls H locs (rfl) (by omega) (hh1) (hh2) (htt) (hnum) (hrem) (Or.inl ⟨rfl, by omega⟩) (hXX) hl hP hD hS
        · skip
          refine ed_pc (pc' := 92) rfl ?_
          refine lv_aload_n hx hb d_Ed_nearestToScratch_92 rfl (lv_at hl 4 rfl) ?_
          refine va_get (D := D) (ci := 1) (v := .ref q) (C := R_Ed) (T := T_Ed) (N := 5) hx hb hts (fun w h => List.mem_cons_of_mem _ (in_Ed w h)) hown hK hP 0 rfl rfl 4 (by decide) (hts _ (List.mem_cons_of_mem _ tw_44)) (fun _ h9 => h9) rfl d_Ed_nearestToScratch_93 ?_
          refine lv_iload hx hb d_Ed_nearestToScratch_96 (lv_at hl 1 rfl) ?_
          refine ed_ineg hx hb d_Ed_nearestToScratch_98 ?_
          refine ed_pc (pc' := 99) rfl ?_
          refine c_fi (wc := [(q, .inr (0, [.ref pa, .int (iI ((s2 : Int)))])), (pa, .inl (cI, 306, .inl f2))]) (wr := [(x, .inr (1, [.ref dg, .int (iI (zc)), .int (iI (pt)), .int (iI (zl)), .ref q])), (dg, .inl (cB, 1200, .inl g))]) (va_runV (C := "ExactDigits$Natural") (As := [.int (iI (-(un)))]) (rest := [.long (jI ((h : Int))), .ref (ad kf)]) ⟨hx, hb, hml, hown, hts⟩ (c_Na_hasDigitBelow l D cB cI cJ t5 ad q pa f2 s2 (V * tw2 k) (-un) (by omega) hok2 H.size) (cwV 1 hts (gV tw_137 tw_80 tw_81 tw_2 tw_82) rfl rfl rfl (by decide +kernel) ⟨Nat.le_of_ble_eq_true rfl, Nat.le_of_ble_eq_true rfl⟩) ⟨c_blind (eX_X t5 ad), va_recv (ci := 0) (q0 := 2) hK hP rfl rfl, fun U hU hW => c_pre (wc := [(q, .inr (0, [.ref pa, .int (iI ((s2 : Int)))])), (pa, .inl (cI, 306, .inl f2))]) (eX_X t5 ad) hE hK hP hD hS hA [2, 3] rfl (by decide) U hU hW⟩ rfl rfl hl.1 rfl (lv_room (Nat.le_of_ble_eq_true rfl)) d_Ed_nearestToScratch_99 ⟨Nat.le_of_ble_eq_true rfl, Nat.le_of_ble_eq_true rfl⟩) hP hD hS hA [2, 3] [0, 1] rfl rfl (by decide) (by decide) (fun r u H locs hp hP hD hS => ?_)
          obtain ⟨rfl, rfl⟩ := hp
          have hP : va_P D ecl [(x, .inr (1, [.ref dg, .int (iI (zc)), .int (iI (pt)), .int (iI (zl)), .ref q])), (dg, .inl (cB, 1200, .inl g)), (q, .inr (0, [.ref pa, .int (iI ((s2 : Int)))])), (pa, .inl (cI, 306, .inl f2))] H := hP
          have hD : va_D A [(x, .inr (1, [.ref dg, .int (iI (zc)), .int (iI (pt)), .int (iI (zl)), .ref q])), (dg, .inl (cB, 1200, .inl g)), (q, .inr (0, [.ref pa, .int (iI ((s2 : Int)))])), (pa, .inl (cI, 306, .inl f2))] := hD
          refine ed_if_eq (tgt := 109) hx hb d_Ed_nearestToScratch_102 rfl (by omega) (fun h_5 => ?_) (fun h_5 => ?_)
          · skip
            refine ed_pc (pc' := 109) rfl ?_
            refine lv_iconst (v := iI 0) hx hb d_Ed_nearestToScratch_109 rfl ?_
            have hP := hP.sub (ws' := [(x, .inr (1, [.ref dg, .int (iI (zc)), .int (iI (pt)), .int (iI (zl)), .ref q])), (dg, .inl (cB, 1200, .inl g)), (q, .inr (0, [.ref pa, .int (iI ((s2 : Int)))])), (pa, .inl (cI, 306, .inl f2))]) [0, 1, 2, 3] rfl
            have hD := hD.sub (ws' := [(x, .inr (1, [.ref dg, .int (iI (zc)), .int (iI (pt)), .int (iI (zl)), .ref q])), (dg, .inl (cB, 1200, .inl g)), (q, .inr (0, [.ref pa, .int (iI ((s2 : Int)))])), (pa, .inl (cI, 306, .inl f2))]) [0, 1, 2, 3] (by decide) rfl
            have hl := lv_sub hl [2] rfl
            exact L110 (s2) (f2) (k) (h) (num) (tt) (rem) _ _ _ ls H locs (rfl) (by omega) (hh1) (hh2) (htt) (hnum) (hrem) (Or.inr ⟨rfl, by omega⟩) (hXX) hl hP hD hS
          · skip
            refine ed_pc (pc' := 105) rfl ?_
            refine lv_iconst (v := iI 1) hx hb d_Ed_nearestToScratch_105 rfl ?_
            refine lv_goto (tgt := 110) hx hb d_Ed_nearestToScratch_106 rfl ?_
            have hP := hP.sub (ws' := [(x, .inr (1, [.ref dg, .int (iI (zc)), .int (iI (pt)), .int (iI (zl)), .ref q])), (dg, .inl (cB, 1200, .inl g)), (q, .inr (0, [.ref pa, .int (iI ((s2 : Int)))])), (pa, .inl (cI, 306, .inl f2))]) [0, 1, 2, 3] rfl
            have hD := hD.sub (ws' := [(x, .inr (1, [.ref dg, .int (iI (zc)), .int (iI (pt)), .int (iI (zl)), .ref q])), (dg, .inl (cB, 1200, .inl g)), (q, .inr (0, [.ref pa, .int (iI ((s2 : Int)))])), (pa, .inl (cI, 306, .inl f2))]) [0, 1, 2, 3] (by decide) rfl
            have hl := lv_sub hl [2] rfl
            exact L110 (s2) (f2) (k) (h) (num) (tt) (rem) _ _ _ ls H locs (rfl) (by omega) (hh1) (hh2) (htt) (hnum) (hrem) (Or.inl ⟨rfl, by omega⟩) (hXX) hl hP hD hS
      · skip
        refine ed_pc (pc' := 36) rfl ?_
        refine lv_aload_n hx hb d_Ed_nearestToScratch_36 rfl (lv_at hl 4 rfl) ?_
        refine va_getX hx hb hE9 hkf hS hown (hts _ (List.mem_cons_of_mem _ tw_598)) (fun _ h9 => h9) d_Ed_nearestToScratch_37 ?_
        have hP := hP.sub (ws' := [(x, .inr (1, [.ref dg, .int (iI (zc)), .int (iI (pt)), .int (iI (zl)), .ref q])), (dg, .inl (cB, 1200, .inl g)), (q, .inr (0, [.ref pa, .int (iI ((sz : Int)))])), (pa, .inl (cI, 306, .inl f))]) [0, 1, 2, 3] rfl
        have hD := hD.sub (ws' := [(x, .inr (1, [.ref dg, .int (iI (zc)), .int (iI (pt)), .int (iI (zl)), .ref q])), (dg, .inl (cB, 1200, .inl g)), (q, .inr (0, [.ref pa, .int (iI ((sz : Int)))])), (pa, .inl (cI, 306, .inl f))]) [0, 1, 2, 3] (by decide) rfl
        have hVp : 0 < V := by rcases Nat.eq_zero_or_pos V with z | z; exact absurd (hd0.mpr z) (by omega); exact z
        exact W.lret (v := (jI (((ifz kf : Nat) : Int)))) hx hb hr (fun t9 ht9 hW9 => ⟨⟨(jI (((ifz kf : Nat) : Int))), [(x, .inr (1, [.ref dg, .int (iI (zc)), .int (iI (pt)), .int (iI (zl)), .ref q])), (dg, .inl (cB, 1200, .inl g)), (q, .inr (0, [.ref pa, .int (iI ((sz : Int)))])), (pa, .inl (cI, 306, .inl f))], rfl, ⟨⟨ifz kf, rfl, ns_large hkf (dl_pos hVp) (dl_le hVp) (by omega)⟩, f, _, rfl⟩, by rw [ht9]; exact hP, hD⟩, hS.F ht9⟩) hS.2.2 d_Ed_nearestToScratch_40
    · skip
      refine ed_pc (pc' := 24) rfl ?_
      refine lv_lconst (v := jI 0) hx hb d_Ed_nearestToScratch_24 (by decide +kernel) ?_
      have hsm : 2 * nP V ex kf < nM ex := by
        rcases Nat.eq_zero_or_pos V with z | z
        · rw [z]; exact ns_zero ex kf
        · exact ns_small hkf hVl (by have := dl_pos z; omega)
      have hP := hP.sub (ws' := [(x, .inr (1, [.ref dg, .int (iI (zc)), .int (iI (pt)), .int (iI (zl)), .ref q])), (dg, .inl (cB, 1200, .inl g)), (q, .inr (0, [.ref pa, .int (iI ((sz : Int)))])), (pa, .inl (cI, 306, .inl f))]) [0, 1, 2, 3] rfl
      have hD := hD.sub (ws' := [(x, .inr (1, [.ref dg, .int (iI (zc)), .int (iI (pt)), .int (iI (zl)), .ref q])), (dg, .inl (cB, 1200, .inl g)), (q, .inr (0, [.ref pa, .int (iI ((sz : Int)))])), (pa, .inl (cI, 306, .inl f))]) [0, 1, 2, 3] (by decide) rfl
      exact W.lret (v := (jI (0))) hx hb hr (fun t9 ht9 hW9 => ⟨⟨(jI (0)), [(x, .inr (1, [.ref dg, .int (iI (zc)), .int (iI (pt)), .int (iI (zl)), .ref q])), (dg, .inl (cB, 1200, .inl g)), (q, .inr (0, [.ref pa, .int (iI ((sz : Int)))])), (pa, .inl (cI, 306, .inl f))], rfl, ⟨⟨0, rfl, NR_small hsm⟩, f, _, rfl⟩, by rw [ht9]; exact hP, hD⟩, hS.F ht9⟩) hS.2.2 d_Ed_nearestToScratch_25
end
section
/-! shortest: the neighbours with n digits, and which read back -/
def upN (X n : Nat) : Prop := 5 < X / 10 ^ (dl X - 1 - n) % 10 ∨ (X / 10 ^ (dl X - 1 - n) % 10 = 5 ∧ (n + 1 < dl X ∨ X / 10 ^ (dl X - n) % 2 = 1))
theorem NR_c {sz inf P M r : Nat} {b b' : Prop} (hb : b ↔ b') (h : NR sz inf P M b r) : NR sz inf P M b' r := by
  have e : b = b' := propext hb
  rw [← e]; exact h
/-- v times 10 to ex reads back to s -/
def RB (v : Nat) (ex : Int) (kf s : Nat) : Prop := NR (fbz kf + 1) (ifz kf) (nP v ex kf) (nM ex) False s
theorem RB_of {v kf s rn : Nat} {ex : Int} (h : NR (fbz kf + 1) (ifz kf) (nP v ex kf) (nM ex) False rn) : RB v ex kf s ↔ rn = s := by
  constructor
  · intro z; exact NR_un (by omega) h z
  · rintro rfl; exact h
/-- the neighbour that is given: the nearer one if it reads back, else the other -/
def NBR (X n : Nat) (ex : Int) (kf s v : Nat) : Prop :=
  (upN X n ∧ ((RB (X / 10 ^ (dl X - n) + 1) ex kf s ∧ v = X / 10 ^ (dl X - n) + 1) ∨ (¬ RB (X / 10 ^ (dl X - n) + 1) ex kf s ∧ RB (X / 10 ^ (dl X - n)) ex kf s ∧ v = X / 10 ^ (dl X - n)))) ∨
  (¬ upN X n ∧ ((RB (X / 10 ^ (dl X - n)) ex kf s ∧ v = X / 10 ^ (dl X - n)) ∨ (¬ RB (X / 10 ^ (dl X - n)) ex kf s ∧ RB (X / 10 ^ (dl X - n) + 1) ex kf s ∧ v = X / 10 ^ (dl X - n) + 1)))
def NBno (X n : Nat) (ex : Int) (kf s : Nat) : Prop := ¬ RB (X / 10 ^ (dl X - n)) ex kf s ∧ ¬ RB (X / 10 ^ (dl X - n) + 1) ex kf s
theorem nb_18 {X n : Nat} (hn : n ≤ dl X) (h18 : n ≤ 18) : X / 10 ^ (dl X - n) < 1000000000000000000 := by
  have h : X / 10 ^ (dl X - n) < 10 ^ n := by
    have := dl_lt (X / 10 ^ (dl X - n))
    rw [dl_div, show dl X - (dl X - n) = n by omega] at this
    exact this
  have : 10 ^ n ≤ 10 ^ 18 := p10_le h18
  omega
end
section
set_option maxHeartbeats 4000000 in
set_option maxRecDepth 100000 in
theorem c_Ed_firstDigits (l : Launch) (D : va_G) (cB cI cJ : ClassId) (t5 : Nat) (ad : Nat → Nat) (x dg q : Nat) (g : Nat → Int32) (pt zl : Int) (X n : Nat) (hnm : nm_ok g X) (hn : n ≤ dl X) (h18 : n ≤ 18) : c_L l m_Ed_firstDigits (Cond.code m_Ed_firstDigits b_Ed_firstDigits 5 (some .long) :: gw) (rm_ 0 0) (eX t5 ad) D ecl (tyS cB cI cJ) [.ref x, .int (iI ((n : Int)))] [(x, .inr (1, [.ref dg, .int (iI (((dl X : Nat) : Int))), .int (iI (pt)), .int (iI (zl)), .ref q])), (dg, .inl (cB, 1200, .inl g))] (fun r u => r = jI ((X / 10 ^ (dl X - n) : Nat) : Int) ∧ u = [(x, .inr (1, [.ref dg, .int (iI (((dl X : Nat) : Int))), .int (iI (pt)), .int (iI (zl)), .ref q])), (dg, .inl (cB, 1200, .inl g))]) 0 0 := by
  intro sz0
  refine Met.ofW (cc := b_Ed_firstDigits) (maxL := 5) (ret := (some .long)) (by decide) rfl ?_
  intro p e s m args below meth c s₁ B hml hv
  obtain ⟨rfl, hsz, hP, hK, hD0, hE⟩ := hv
  have hx := B.exec
  have hb := B.bytes
  have hr := B.returns
  have hts := atoms_spec (ws := Cond.code m_Ed_firstDigits b_Ed_firstDigits 5 (some .long) :: gw) B.pre
  have hown : s.vm.findClass R_Ed = some m.cls := findClass_of_methodNamed B.named
  have hlocks := B.notSynchronized
  subst hsz
  have hD := hD0.self (sz := s.heap.size)
  generalize hAe : va_A [(x, .inr (1, [.ref dg, .int (iI (((dl X : Nat) : Int))), .int (iI (pt)), .int (iI (zl)), .ref q])), (dg, .inl (cB, 1200, .inl g))] s.heap.size = A at hD hE ⊢
  have hA : ∀ q : Nat, s.heap.size ≤ q → A q := fun q h => by rw [← hAe]; exact Or.inr h
  have hS : va_S A s.heap s.heap [] := va_S.rf
  have hl := lv_entry ([.ref x, .int (iI ((n : Int)))]) (n := 5) (Nat.le_of_ble_eq_true rfl)
  rw [lg_entry_eq]
  generalize (lg_sl ([.ref x, .int (iI ((n : Int)))]) ++ List.replicate (5 - (lg_sl ([.ref x, .int (iI ((n : Int)))])).length) Slot.unset).toArray = ls at hl ⊢
  have hl : lv_has ls 5 [(0, .ref x), (1, .int (iI ((n : Int))))] := hl
  have hX12 := hnm.1
  have L5 : ∀ (n9 : Nat) (i : Nat) (y : Nat) (zi : Int) (zy : Int) (ls : Array Slot) (H : Heap) (locs : List Loc), n - i = n9 → (zi = (i : Int)) → (zy = (y : Int)) → (y = X / 10 ^ (dl X - i)) → (i ≤ n) → lv_has ls 5 [(0, .ref x), (1, .int (iI ((n : Int)))), (2, .long (jI (zy))), (4, .int (iI (zi)))] → va_P D ecl [(x, .inr (1, [.ref dg, .int (iI (((dl X : Nat) : Int))), .int (iI (pt)), .int (iI (zl)), .ref q])), (dg, .inl (cB, 1200, .inl g))] H → va_D A [(x, .inr (1, [.ref dg, .int (iI (((dl X : Nat) : Int))), .int (iI (pt)), .int (iI (zl)), .ref q])), (dg, .inl (cB, 1200, .inl g))] → va_S A s.heap H locs → W p l e (headSpec (Cond.code m_Ed_firstDigits b_Ed_firstDigits 5 (some .long) :: gw) (rm_ 0 0)).room s m ([.ref x, .int (iI ((n : Int)))] : List Value).toArray below meth c H locs 0 0 (MQ below (va_Ql (fun r u => r = jI ((X / 10 ^ (dl X - n) : Nat) : Int) ∧ u = [(x, .inr (1, [.ref dg, .int (iI (((dl X : Nat) : Int))), .int (iI (pt)), .int (iI (zl)), .ref q])), (dg, .inl (cB, 1200, .inl g))]) (c_B D ecl A) A) ([.ref x, .int (iI ((n : Int)))] : List Value).toArray s 0 0 A) (F0 m 5 ls []) := by
    intro n9
    induction n9 using Nat.strongRecOn with
    | ind n9 ih =>
    intro i y zi zy ls H locs hn9 hi hzy hy hin hl hP hD hS
    refine lv_iload hx hb d_Ed_firstDigits_5 (lv_at hl 3 rfl) ?_
    refine lv_iload_n hx hb d_Ed_firstDigits_7 rfl (lv_at hl 1 rfl) ?_
    refine ed_icmp_ge (tgt := 41) hx hb d_Ed_firstDigits_8 rfl (by omega) (by omega) (fun h_1 => ?_) (fun h_1 => ?_)
    · skip
      refine ed_pc (pc' := 41) rfl ?_
      refine lv_lload_n hx hb d_Ed_firstDigits_41 rfl (lv_at hl 2 rfl) ?_
      have hie : i = n := by omega
      refine ed_tj (y := ((X / 10 ^ (dl X - n) : Nat) : Int)) (by rw [hzy, hy, hie]) ?_
      exact W.lret (v := (jI (((X / 10 ^ (dl X - n) : Nat) : Int)))) hx hb hr (fun t9 ht9 hW9 => ⟨⟨(jI (((X / 10 ^ (dl X - n) : Nat) : Int))), [(x, .inr (1, [.ref dg, .int (iI (((dl X : Nat) : Int))), .int (iI (pt)), .int (iI (zl)), .ref q])), (dg, .inl (cB, 1200, .inl g))], rfl, ⟨rfl, rfl⟩, by rw [ht9]; exact hP, hD⟩, hS.F ht9⟩) hS.2.2 d_Ed_firstDigits_42
    · skip
      refine ed_pc (pc' := 11) rfl ?_
      refine lv_iload hx hb d_Ed_firstDigits_11 (lv_at hl 3 rfl) ?_
      refine lv_aload_n hx hb d_Ed_firstDigits_13 rfl (lv_at hl 0 rfl) ?_
      refine va_get (D := D) (ci := 1) (v := .int (iI (((dl X : Nat) : Int)))) (C := R_Ed) (T := T_Ed) (N := 5) hx hb hts (fun w h => List.mem_cons_of_mem _ (in_Ed w h)) hown hK hP 0 rfl rfl 1 (by decide) (hts _ (List.mem_cons_of_mem _ tw_41)) (fun _ h9 => h9) rfl d_Ed_firstDigits_14 ?_
      refine ed_icmp_ge (tgt := 41) hx hb d_Ed_firstDigits_17 rfl (by omega) (by omega) (fun h_2 => ?_) (fun h_2 => ?_)
      · exact absurd h_2 (by omega)
      · skip
        refine ed_pc (pc' := 20) rfl ?_
        have hyb := nb_18 (X := X) (n := i) (by omega) (by omega)
        rw [← hy] at hyb
        obtain ⟨d, hd0⟩ : ∃ d : Nat, d = X / 10 ^ (dl X - 1 - i) % 10 := ⟨_, rfl⟩
        have hd9 : d < 10 := by rw [hd0]; exact dg_lt _ _
        refine ed_pc (pc' := 20) rfl ?_
        refine lv_lload_n hx hb d_Ed_firstDigits_20 rfl (lv_at hl 2 rfl) ?_
        refine lv_ldc2 (v := 10) hx hb hown (hts _ (List.mem_cons_of_mem _ tw_263)) d_Ed_firstDigits_21 ?_
        refine ed_tl (y := (jI (10))) (by decide +kernel) ?_
        refine ed_lmul hx hb d_Ed_firstDigits_24 ?_
        refine lv_aload_n hx hb d_Ed_firstDigits_25 rfl (lv_at hl 0 rfl) ?_
        refine va_get (D := D) (ci := 1) (v := .ref dg) (C := R_Ed) (T := T_Ed) (N := 5) hx hb hts (fun w h => List.mem_cons_of_mem _ (in_Ed w h)) hown hK hP 0 rfl rfl 0 (by decide) (hts _ (List.mem_cons_of_mem _ tw_40)) (fun _ h9 => h9) rfl d_Ed_firstDigits_26 ?_
        refine lv_iload hx hb d_Ed_firstDigits_29 (lv_at hl 3 rfl) ?_
        refine ed_bald (y := (d : Int)) hx hb hK hP 1 0 rfl rfl (i) (by omega) (by omega) (by decide) (by rw [hd0]; exact hnm.2.2 i (by omega)) d_Ed_firstDigits_31 ?_
        refine ed_i2l hx hb d_Ed_firstDigits_32 (by omega) ?_
        refine ed_pc (pc' := 33) rfl ?_
        refine ed_ladd hx hb d_Ed_firstDigits_33 ?_
        refine lv_lstore_n hx hb d_Ed_firstDigits_34 rfl hl (by decide) rfl (fun ls hl => ?_)
        have hl : lv_has ls 5 [(2, .long (jI (((zy) * (10)) + ((d : Int))))), (0, .ref x), (1, .int (iI ((n : Int)))), (4, .int (iI (zi)))] := hl
        refine lv_iinc (k := 3) (v := iI (zi + 1)) hx hb d_Ed_firstDigits_35 hl rfl (iI_add _ _) (by decide) rfl (fun ls hl => ?_)
        have hl : lv_has ls 5 [(4, .int (iI (zi + 1))), (2, .long (jI (((zy) * (10)) + ((d : Int))))), (0, .ref x), (1, .int (iI ((n : Int))))] := hl
        refine lv_goto (tgt := 5) hx hb d_Ed_firstDigits_38 rfl ?_
        have hl := lv_sub hl [2, 3, 1, 0] rfl
        exact ih _ (by omega) (i + 1) (y * 10 + d) _ _ ls H locs rfl (by omega) (by omega) (by rw [hy, hd0]; exact (dg_first (by omega)).symm) (by omega) hl hP hD hS
  refine lv_lconst (v := jI 0) hx hb d_Ed_firstDigits_0 (by decide +kernel) ?_
  refine lv_lstore_n hx hb d_Ed_firstDigits_1 rfl hl (by decide) rfl (fun ls hl => ?_)
  have hl : lv_has ls 5 [(2, .long (jI (0))), (0, .ref x), (1, .int (iI ((n : Int))))] := hl
  refine lv_iconst (v := iI 0) hx hb d_Ed_firstDigits_2 rfl ?_
  refine lv_istore hx hb d_Ed_firstDigits_3 hl (by decide) rfl (fun ls hl => ?_)
  have hl : lv_has ls 5 [(4, .int (iI (0))), (2, .long (jI (0))), (0, .ref x), (1, .int (iI ((n : Int))))] := hl
  have hl := lv_sub hl [2, 3, 1, 0] rfl
  exact L5 _ (0) (0) _ _ ls s.heap [] rfl (rfl) (rfl) (by rw [Nat.sub_zero, Nat.div_eq_of_lt (dl_lt X)]) (by omega) hl hP hD hS
set_option maxHeartbeats 4000000 in
set_option maxRecDepth 100000 in
theorem c_Ed_isNearerAbove (l : Launch) (D : va_G) (cB cI cJ : ClassId) (t5 : Nat) (ad : Nat → Nat) (x dg q : Nat) (g : Nat → Int32) (pt zl : Int) (X n bw : Nat) (hnm : nm_ok g X) (hn : n < dl X) (hbw : bw = X / 10 ^ (dl X - n)) (hb63 : bw < 9223372036854775808) : c_I l m_Ed_isNearerAbove (Cond.code m_Ed_isNearerAbove b_Ed_isNearerAbove 4 (some .boolean) :: gw) (rm_ 0 0) (eX t5 ad) D ecl (tyS cB cI cJ) [.ref x, .int (iI ((n : Int))), .long (jI ((bw : Int)))] [(x, .inr (1, [.ref dg, .int (iI (((dl X : Nat) : Int))), .int (iI (pt)), .int (iI (zl)), .ref q])), (dg, .inl (cB, 1200, .inl g))] (fun r u => ((r = iI 1 ∧ upN X n) ∨ (r = iI 0 ∧ ¬ upN X n)) ∧ u = [(x, .inr (1, [.ref dg, .int (iI (((dl X : Nat) : Int))), .int (iI (pt)), .int (iI (zl)), .ref q])), (dg, .inl (cB, 1200, .inl g))]) 0 0 := by
  intro sz0
  refine Met.ofW (cc := b_Ed_isNearerAbove) (maxL := 4) (ret := (some .boolean)) (by decide) rfl ?_
  intro p e s m args below meth c s₁ B hml hv
  obtain ⟨rfl, hsz, hP, hK, hD0, hE⟩ := hv
  have hx := B.exec
  have hb := B.bytes
  have hr := B.returns
  have hts := atoms_spec (ws := Cond.code m_Ed_isNearerAbove b_Ed_isNearerAbove 4 (some .boolean) :: gw) B.pre
  have hown : s.vm.findClass R_Ed = some m.cls := findClass_of_methodNamed B.named
  have hlocks := B.notSynchronized
  subst hsz
  have hD := hD0.self (sz := s.heap.size)
  generalize hAe : va_A [(x, .inr (1, [.ref dg, .int (iI (((dl X : Nat) : Int))), .int (iI (pt)), .int (iI (zl)), .ref q])), (dg, .inl (cB, 1200, .inl g))] s.heap.size = A at hD hE ⊢
  have hA : ∀ q : Nat, s.heap.size ≤ q → A q := fun q h => by rw [← hAe]; exact Or.inr h
  have hS : va_S A s.heap s.heap [] := va_S.rf
  have hl := lv_entry ([.ref x, .int (iI ((n : Int))), .long (jI ((bw : Int)))]) (n := 4) (Nat.le_of_ble_eq_true rfl)
  rw [lg_entry_eq]
  generalize (lg_sl ([.ref x, .int (iI ((n : Int))), .long (jI ((bw : Int)))]) ++ List.replicate (4 - (lg_sl ([.ref x, .int (iI ((n : Int))), .long (jI ((bw : Int)))])).length) Slot.unset).toArray = ls at hl ⊢
  have hl : lv_has ls 4 [(0, .ref x), (1, .int (iI ((n : Int)))), (2, .long (jI ((bw : Int))))] := hl
  have hX12 := hnm.1
  obtain ⟨d, hd0⟩ : ∃ d : Nat, d = X / 10 ^ (dl X - 1 - n) % 10 := ⟨_, rfl⟩
  have hd9 : d < 10 := by rw [hd0]; exact dg_lt _ _
  have hup : upN X n ↔ (5 < d ∨ (d = 5 ∧ (n + 1 < dl X ∨ bw % 2 = 1))) := by unfold upN; rw [← hd0, ← hbw]
  refine lv_iload_n hx hb d_Ed_isNearerAbove_0 rfl (lv_at hl 1 rfl) ?_
  refine lv_aload_n hx hb d_Ed_isNearerAbove_1 rfl (lv_at hl 0 rfl) ?_
  refine va_get (D := D) (ci := 1) (v := .int (iI (((dl X : Nat) : Int)))) (C := R_Ed) (T := T_Ed) (N := 5) hx hb hts (fun w h => List.mem_cons_of_mem _ (in_Ed w h)) hown hK hP 0 rfl rfl 1 (by decide) (hts _ (List.mem_cons_of_mem _ tw_41)) (fun _ h9 => h9) rfl d_Ed_isNearerAbove_2 ?_
  refine ed_icmp_lt (tgt := 10) hx hb d_Ed_isNearerAbove_5 rfl (by omega) (by omega) (fun h_1 => ?_) (fun h_1 => ?_)
  · skip
    refine ed_pc (pc' := 10) rfl ?_
    refine lv_aload_n hx hb d_Ed_isNearerAbove_10 rfl (lv_at hl 0 rfl) ?_
    refine va_get (D := D) (ci := 1) (v := .ref dg) (C := R_Ed) (T := T_Ed) (N := 5) hx hb hts (fun w h => List.mem_cons_of_mem _ (in_Ed w h)) hown hK hP 0 rfl rfl 0 (by decide) (hts _ (List.mem_cons_of_mem _ tw_40)) (fun _ h9 => h9) rfl d_Ed_isNearerAbove_11 ?_
    refine lv_iload_n hx hb d_Ed_isNearerAbove_14 rfl (lv_at hl 1 rfl) ?_
    refine ed_pc (pc' := 15) rfl ?_
    refine ed_bald (y := (d : Int)) hx hb hK hP 1 0 rfl rfl (n) (by omega) (by omega) (by decide) (by rw [hd0]; exact hnm.2.2 n hn) d_Ed_isNearerAbove_15 ?_
    refine lv_iconst (v := iI 5) hx hb d_Ed_isNearerAbove_16 rfl ?_
    refine ed_icmp_eq (tgt := 36) hx hb d_Ed_isNearerAbove_17 rfl (by omega) (by omega) (fun h_2 => ?_) (fun h_2 => ?_)
    · skip
      refine ed_pc (pc' := 36) rfl ?_
      refine lv_aload_n hx hb d_Ed_isNearerAbove_36 rfl (lv_at hl 0 rfl) ?_
      refine va_get (D := D) (ci := 1) (v := .int (iI (((dl X : Nat) : Int)))) (C := R_Ed) (T := T_Ed) (N := 5) hx hb hts (fun w h => List.mem_cons_of_mem _ (in_Ed w h)) hown hK hP 0 rfl rfl 1 (by decide) (hts _ (List.mem_cons_of_mem _ tw_41)) (fun _ h9 => h9) rfl d_Ed_isNearerAbove_37 ?_
      refine lv_iload_n hx hb d_Ed_isNearerAbove_40 rfl (lv_at hl 1 rfl) ?_
      refine lv_iconst (v := iI 1) hx hb d_Ed_isNearerAbove_41 rfl ?_
      refine ed_iadd hx hb d_Ed_isNearerAbove_42 ?_
      refine ed_pc (pc' := 43) rfl ?_
      refine ed_icmp_gt (tgt := 54) hx hb d_Ed_isNearerAbove_43 rfl (by omega) (by omega) (fun h_3 => ?_) (fun h_3 => ?_)
      · skip
        refine ed_pc (pc' := 54) rfl ?_
        refine lv_iconst (v := iI 1) hx hb d_Ed_isNearerAbove_54 rfl ?_
        refine lv_goto (tgt := 59) hx hb d_Ed_isNearerAbove_55 rfl ?_
        exact W.zret (v := (iI (1))) hx hb hr (by decide +kernel) (fun t9 ht9 hW9 => ⟨⟨(iI (1)), [(x, .inr (1, [.ref dg, .int (iI (((dl X : Nat) : Int))), .int (iI (pt)), .int (iI (zl)), .ref q])), (dg, .inl (cB, 1200, .inl g))], rfl, ⟨Or.inl ⟨rfl, hup.mpr (by omega)⟩, rfl⟩, by rw [ht9]; exact hP, hD⟩, hS.F ht9⟩) hS.2.2 d_Ed_isNearerAbove_59
      · skip
        refine ed_pc (pc' := 46) rfl ?_
        refine lv_lload_n hx hb d_Ed_isNearerAbove_46 rfl (lv_at hl 2 rfl) ?_
        refine lv_lconst (v := jI 1) hx hb d_Ed_isNearerAbove_47 (by decide +kernel) ?_
        refine lv_land hx hb d_Ed_isNearerAbove_48 ?_
        refine ed_tl (y := (jI (((bw % 2 : Nat) : Int)))) (and_1 (by omega)) ?_
        refine lv_lconst (v := jI 0) hx hb d_Ed_isNearerAbove_49 (by decide +kernel) ?_
        refine ed_lif_eq (tgt := 58) hx hb d_Ed_isNearerAbove_50 d_Ed_isNearerAbove_51 rfl (by omega) (by omega) (fun h_4 => ?_) (fun h_4 => ?_)
        · skip
          refine ed_pc (pc' := 58) rfl ?_
          refine lv_iconst (v := iI 0) hx hb d_Ed_isNearerAbove_58 rfl ?_
          exact W.zret (v := (iI (0))) hx hb hr (by decide +kernel) (fun t9 ht9 hW9 => ⟨⟨(iI (0)), [(x, .inr (1, [.ref dg, .int (iI (((dl X : Nat) : Int))), .int (iI (pt)), .int (iI (zl)), .ref q])), (dg, .inl (cB, 1200, .inl g))], rfl, ⟨Or.inr ⟨rfl, fun z => absurd (hup.mp z) (by omega)⟩, rfl⟩, by rw [ht9]; exact hP, hD⟩, hS.F ht9⟩) hS.2.2 d_Ed_isNearerAbove_59
        · skip
          refine ed_pc (pc' := 54) rfl ?_
          refine lv_iconst (v := iI 1) hx hb d_Ed_isNearerAbove_54 rfl ?_
          refine lv_goto (tgt := 59) hx hb d_Ed_isNearerAbove_55 rfl ?_
          exact W.zret (v := (iI (1))) hx hb hr (by decide +kernel) (fun t9 ht9 hW9 => ⟨⟨(iI (1)), [(x, .inr (1, [.ref dg, .int (iI (((dl X : Nat) : Int))), .int (iI (pt)), .int (iI (zl)), .ref q])), (dg, .inl (cB, 1200, .inl g))], rfl, ⟨Or.inl ⟨rfl, hup.mpr (by omega)⟩, rfl⟩, by rw [ht9]; exact hP, hD⟩, hS.F ht9⟩) hS.2.2 d_Ed_isNearerAbove_59
    · skip
      refine ed_pc (pc' := 20) rfl ?_
      refine lv_aload_n hx hb d_Ed_isNearerAbove_20 rfl (lv_at hl 0 rfl) ?_
      refine va_get (D := D) (ci := 1) (v := .ref dg) (C := R_Ed) (T := T_Ed) (N := 5) hx hb hts (fun w h => List.mem_cons_of_mem _ (in_Ed w h)) hown hK hP 0 rfl rfl 0 (by decide) (hts _ (List.mem_cons_of_mem _ tw_40)) (fun _ h9 => h9) rfl d_Ed_isNearerAbove_21 ?_
      refine lv_iload_n hx hb d_Ed_isNearerAbove_24 rfl (lv_at hl 1 rfl) ?_
      refine ed_bald (y := (d : Int)) hx hb hK hP 1 0 rfl rfl (n) (by omega) (by omega) (by decide) (by rw [hd0]; exact hnm.2.2 n hn) d_Ed_isNearerAbove_25 ?_
      refine lv_iconst (v := iI 5) hx hb d_Ed_isNearerAbove_26 rfl ?_
      refine ed_pc (pc' := 27) rfl ?_
      refine ed_icmp_le (tgt := 34) hx hb d_Ed_isNearerAbove_27 rfl (by omega) (by omega) (fun h_5 => ?_) (fun h_5 => ?_)
      · skip
        refine ed_pc (pc' := 34) rfl ?_
        refine lv_iconst (v := iI 0) hx hb d_Ed_isNearerAbove_34 rfl ?_
        exact W.zret (v := (iI (0))) hx hb hr (by decide +kernel) (fun t9 ht9 hW9 => ⟨⟨(iI (0)), [(x, .inr (1, [.ref dg, .int (iI (((dl X : Nat) : Int))), .int (iI (pt)), .int (iI (zl)), .ref q])), (dg, .inl (cB, 1200, .inl g))], rfl, ⟨Or.inr ⟨rfl, fun z => absurd (hup.mp z) (by omega)⟩, rfl⟩, by rw [ht9]; exact hP, hD⟩, hS.F ht9⟩) hS.2.2 d_Ed_isNearerAbove_35
      · skip
        refine ed_pc (pc' := 30) rfl ?_
        refine lv_iconst (v := iI 1) hx hb d_Ed_isNearerAbove_30 rfl ?_
        refine lv_goto (tgt := 35) hx hb d_Ed_isNearerAbove_31 rfl ?_
        exact W.zret (v := (iI (1))) hx hb hr (by decide +kernel) (fun t9 ht9 hW9 => ⟨⟨(iI (1)), [(x, .inr (1, [.ref dg, .int (iI (((dl X : Nat) : Int))), .int (iI (pt)), .int (iI (zl)), .ref q])), (dg, .inl (cB, 1200, .inl g))], rfl, ⟨Or.inl ⟨rfl, hup.mpr (by omega)⟩, rfl⟩, by rw [ht9]; exact hP, hD⟩, hS.F ht9⟩) hS.2.2 d_Ed_isNearerAbove_35
  · exact absurd h_1 (by omega)
set_option maxHeartbeats 4000000 in
set_option maxRecDepth 100000 in
theorem c_Ed_readsBack (l : Launch) (D : va_G) (cB cI cJ : ClassId) (t5 : Nat) (ad : Nat → Nat) (x dg q pa : Nat) (g f : Nat → Int32) (zs zc pt zl ex : Int) (v kf s0 : Nat) (hkf : kf < 2) (hv : v < 9223372036854775808) (hs0 : s0 < 9223372036854775808) (hex : -10000000 ≤ ex ∧ ex ≤ 10000000) : c_I l m_Ed_readsBack (Cond.code m_Ed_readsBack b_Ed_readsBack 7 (some .boolean) :: gw) (rm_ 3 84) (eX t5 ad) D ecl (tyS cB cI cJ) [.ref x, .long (jI ((v : Int))), .int (iI (ex)), .long (jI ((s0 : Int))), .ref (ad kf)] [(x, .inr (1, [.ref dg, .int (iI (zc)), .int (iI (pt)), .int (iI (zl)), .ref q])), (dg, .inl (cB, 1200, .inl g)), (q, .inr (0, [.ref pa, .int (iI (zs))])), (pa, .inl (cI, 306, .inl f))] (fun r u => ((r = iI 1 ∧ RB v ex kf s0) ∨ (r = iI 0 ∧ ¬ RB v ex kf s0)) ∧ ∃ (f' : Nat → Int32) (zs' : Int), u = [(x, .inr (1, [.ref dg, .int (iI (zc)), .int (iI (pt)), .int (iI (zl)), .ref q])), (dg, .inl (cB, 1200, .inl g)), (q, .inr (0, [.ref pa, .int (iI (zs'))])), (pa, .inl (cI, 306, .inl f'))]) 0 0 := by
  intro sz0
  refine Met.ofW (cc := b_Ed_readsBack) (maxL := 7) (ret := (some .boolean)) (by decide) rfl ?_
  intro p e s m args below meth c s₁ B hml hv
  obtain ⟨rfl, hsz, hP, hK, hD0, hE⟩ := hv
  have hx := B.exec
  have hb := B.bytes
  have hr := B.returns
  have hts := atoms_spec (ws := Cond.code m_Ed_readsBack b_Ed_readsBack 7 (some .boolean) :: gw) B.pre
  have hown : s.vm.findClass R_Ed = some m.cls := findClass_of_methodNamed B.named
  have hlocks := B.notSynchronized
  subst hsz
  have hD := hD0.self (sz := s.heap.size)
  generalize hAe : va_A [(x, .inr (1, [.ref dg, .int (iI (zc)), .int (iI (pt)), .int (iI (zl)), .ref q])), (dg, .inl (cB, 1200, .inl g)), (q, .inr (0, [.ref pa, .int (iI (zs))])), (pa, .inl (cI, 306, .inl f))] s.heap.size = A at hD hE ⊢
  have hA : ∀ q : Nat, s.heap.size ≤ q → A q := fun q h => by rw [← hAe]; exact Or.inr h
  have hS : va_S A s.heap s.heap [] := va_S.rf
  have hl := lv_entry ([.ref x, .long (jI ((v : Int))), .int (iI (ex)), .long (jI ((s0 : Int))), .ref (ad kf)]) (n := 7) (Nat.le_of_ble_eq_true rfl)
  rw [lg_entry_eq]
  generalize (lg_sl ([.ref x, .long (jI ((v : Int))), .int (iI (ex)), .long (jI ((s0 : Int))), .ref (ad kf)]) ++ List.replicate (7 - (lg_sl ([.ref x, .long (jI ((v : Int))), .int (iI (ex)), .long (jI ((s0 : Int))), .ref (ad kf)])).length) Slot.unset).toArray = ls at hl ⊢
  have hl : lv_has ls 7 [(0, .ref x), (1, .long (jI ((v : Int)))), (3, .int (iI (ex))), (4, .long (jI ((s0 : Int)))), (6, .ref (ad kf))] := hl
  have hfz := fz_all kf hkf
  have hv12 : dl v ≤ 1200 := Nat.le_trans (dl_bound (show v < 10 ^ 19 by omega)) (by decide)
  refine lv_aload_n hx hb d_Ed_readsBack_0 rfl (lv_at hl 0 rfl) ?_
  refine va_get (D := D) (ci := 1) (v := .ref q) (C := R_Ed) (T := T_Ed) (N := 5) hx hb hts (fun w h => List.mem_cons_of_mem _ (in_Ed w h)) hown hK hP 0 rfl rfl 4 (by decide) (hts _ (List.mem_cons_of_mem _ tw_44)) (fun _ h9 => h9) rfl d_Ed_readsBack_1 ?_
  refine lv_lload_n hx hb d_Ed_readsBack_4 rfl (lv_at hl 1 rfl) ?_
  refine ed_tl (y := (lN v)) (jI_nat v) ?_
  refine c_fv (wc := [(q, .inr (0, [.ref pa, .int (iI (zs))])), (pa, .inl (cI, 306, .inl f))]) (wr := [(x, .inr (1, [.ref dg, .int (iI (zc)), .int (iI (pt)), .int (iI (zl)), .ref q])), (dg, .inl (cB, 1200, .inl g))]) (va_runV (C := "ExactDigits$Natural") (As := [.long (lN v)]) (rest := []) ⟨hx, hb, hml, hown, hts⟩ (c_Na_setUnsigned l D cB cI cJ t5 ad q pa f zs v (by omega) s.heap.size) (cwV 1 hts (gV tw_60 tw_61 tw_62 tw_2 tw_63) rfl rfl rfl (by decide +kernel) ⟨Nat.le_of_ble_eq_true rfl, Nat.le_of_ble_eq_true rfl⟩) ⟨c_blind (eX_X t5 ad), va_recv (ci := 0) (q0 := 2) hK hP rfl rfl, fun U hU hW => c_pre (wc := [(q, .inr (0, [.ref pa, .int (iI (zs))])), (pa, .inl (cI, 306, .inl f))]) (eX_X t5 ad) hE hK hP hD hS hA [2, 3] rfl (by decide) U hU hW⟩ rfl rfl hl.1 rfl (lv_room (Nat.le_of_ble_eq_true rfl)) d_Ed_readsBack_5 ⟨Nat.le_of_ble_eq_true rfl, Nat.le_of_ble_eq_true rfl⟩) hP hD hS hA [2, 3] [0, 1] rfl rfl (by decide) (by decide) (fun u H locs hp hP hD hS => ?_)
  obtain ⟨f2, sz2, rfl, hok⟩ := hp
  have hP : va_P D ecl [(x, .inr (1, [.ref dg, .int (iI (zc)), .int (iI (pt)), .int (iI (zl)), .ref q])), (dg, .inl (cB, 1200, .inl g)), (q, .inr (0, [.ref pa, .int (iI ((sz2 : Int)))])), (pa, .inl (cI, 306, .inl f2))] H := hP
  have hD : va_D A [(x, .inr (1, [.ref dg, .int (iI (zc)), .int (iI (pt)), .int (iI (zl)), .ref q])), (dg, .inl (cB, 1200, .inl g)), (q, .inr (0, [.ref pa, .int (iI ((sz2 : Int)))])), (pa, .inl (cI, 306, .inl f2))] := hD
  refine lv_aload_n hx hb d_Ed_readsBack_8 rfl (lv_at hl 0 rfl) ?_
  refine lv_iload_n hx hb d_Ed_readsBack_9 rfl (lv_at hl 2 rfl) ?_
  refine lv_iconst (v := iI 0) hx hb d_Ed_readsBack_10 rfl ?_
  refine ed_pc (pc' := 11) rfl ?_
  refine lv_aload hx hb d_Ed_readsBack_11 (lv_at hl 4 rfl) ?_
  refine c_fl (wc := [(x, .inr (1, [.ref dg, .int (iI (zc)), .int (iI (pt)), .int (iI (zl)), .ref q])), (dg, .inl (cB, 1200, .inl g)), (q, .inr (0, [.ref pa, .int (iI ((sz2 : Int)))])), (pa, .inl (cI, 306, .inl f2))]) (wr := []) (va_runV (C := "ExactDigits") (As := [.int (iI (ex)), .int (iI (0)), .ref (ad kf)]) (rest := []) ⟨hx, hb, hml, hown, hts⟩ (c_Ed_nearestToScratch l D cB cI cJ t5 ad x dg q pa g f2 sz2 v kf zc pt zl ex 0 hkf hok hv12 hex (by omega) H.size) (cwV 3 hts (gV tw_110 tw_112 ts_2 tw_1 tw_113) rfl rfl rfl (by decide +kernel) ⟨Nat.le_of_ble_eq_true rfl, Nat.le_of_ble_eq_true rfl⟩) ⟨c_blind (eX_X t5 ad), va_recv (ci := 1) (q0 := 0) hK hP rfl rfl, fun U hU hW => c_pre (wc := [(x, .inr (1, [.ref dg, .int (iI (zc)), .int (iI (pt)), .int (iI (zl)), .ref q])), (dg, .inl (cB, 1200, .inl g)), (q, .inr (0, [.ref pa, .int (iI ((sz2 : Int)))])), (pa, .inl (cI, 306, .inl f2))]) (eX_X t5 ad) hE hK hP hD hS hA [0, 1, 2, 3] rfl (by decide) U hU hW⟩ rfl rfl hl.1 rfl (lv_room (Nat.le_of_ble_eq_true rfl)) d_Ed_readsBack_13 ⟨Nat.le_of_ble_eq_true rfl, Nat.le_of_ble_eq_true rfl⟩) hP hD hS hA [0, 1, 2, 3] [] rfl rfl (by decide) (by decide) (fun r u H locs hp hP hD hS => ?_)
  obtain ⟨⟨rn, rfl, hNR⟩, f3, zs3, rfl⟩ := hp
  have hP : va_P D ecl [(x, .inr (1, [.ref dg, .int (iI (zc)), .int (iI (pt)), .int (iI (zl)), .ref q])), (dg, .inl (cB, 1200, .inl g)), (q, .inr (0, [.ref pa, .int (iI (zs3))])), (pa, .inl (cI, 306, .inl f3))] H := hP
  have hD : va_D A [(x, .inr (1, [.ref dg, .int (iI (zc)), .int (iI (pt)), .int (iI (zl)), .ref q])), (dg, .inl (cB, 1200, .inl g)), (q, .inr (0, [.ref pa, .int (iI (zs3))])), (pa, .inl (cI, 306, .inl f3))] := hD
  have hNR := NR_c (b' := False) (iff_of_false (by decide) (fun z => z)) hNR
  have hrn : rn ≤ ifz kf := by obtain ⟨_, _, _, _, _, z⟩ := hNR; rw [z]; exact Nat.min_le_left _ _
  have hrb := RB_of (s := s0) hNR
  refine lv_lload hx hb d_Ed_readsBack_16 (lv_at hl 3 rfl) ?_
  refine ed_lif_ne (tgt := 26) hx hb d_Ed_readsBack_18 d_Ed_readsBack_19 rfl (by omega) (by omega) (fun h_1 => ?_) (fun h_1 => ?_)
  · skip
    refine ed_pc (pc' := 26) rfl ?_
    refine lv_iconst (v := iI 0) hx hb d_Ed_readsBack_26 rfl ?_
    exact W.zret (v := (iI (0))) hx hb hr (by decide +kernel) (fun t9 ht9 hW9 => ⟨⟨(iI (0)), [(x, .inr (1, [.ref dg, .int (iI (zc)), .int (iI (pt)), .int (iI (zl)), .ref q])), (dg, .inl (cB, 1200, .inl g)), (q, .inr (0, [.ref pa, .int (iI (zs3))])), (pa, .inl (cI, 306, .inl f3))], rfl, ⟨Or.inr ⟨rfl, fun z => absurd (hrb.mp z) (by omega)⟩, f3, zs3, rfl⟩, by rw [ht9]; exact hP, hD⟩, hS.F ht9⟩) hS.2.2 d_Ed_readsBack_27
  · skip
    refine ed_pc (pc' := 22) rfl ?_
    refine lv_iconst (v := iI 1) hx hb d_Ed_readsBack_22 rfl ?_
    refine lv_goto (tgt := 27) hx hb d_Ed_readsBack_23 rfl ?_
    exact W.zret (v := (iI (1))) hx hb hr (by decide +kernel) (fun t9 ht9 hW9 => ⟨⟨(iI (1)), [(x, .inr (1, [.ref dg, .int (iI (zc)), .int (iI (pt)), .int (iI (zl)), .ref q])), (dg, .inl (cB, 1200, .inl g)), (q, .inr (0, [.ref pa, .int (iI (zs3))])), (pa, .inl (cI, 306, .inl f3))], rfl, ⟨Or.inl ⟨rfl, hrb.mpr (by omega)⟩, f3, zs3, rfl⟩, by rw [ht9]; exact hP, hD⟩, hS.F ht9⟩) hS.2.2 d_Ed_readsBack_27
end
section
set_option maxHeartbeats 4000000 in
set_option maxRecDepth 100000 in
theorem c_Ed_neighbourReadBack (l : Launch) (D : va_G) (cB cI cJ : ClassId) (t5 : Nat) (ad : Nat → Nat) (x dg q pa : Nat) (g f : Nat → Int32) (zs pt zl : Int) (X n kf s0 : Nat) (hkf : kf < 2) (hnm : nm_ok g X) (hn : n < dl X) (h18 : n ≤ 18) (hs0 : s0 < 9223372036854775808) (hpt : -1000000 ≤ pt ∧ pt ≤ 1000000) : c_L l m_Ed_neighbourReadBack (Cond.code m_Ed_neighbourReadBack b_Ed_neighbourReadBack 11 (some .long) :: gw) (rm_ 4 110) (eX t5 ad) D ecl (tyS cB cI cJ) [.ref x, .int (iI ((n : Int))), .long (jI ((s0 : Int))), .ref (ad kf)] [(x, .inr (1, [.ref dg, .int (iI (((dl X : Nat) : Int))), .int (iI (pt)), .int (iI (zl)), .ref q])), (dg, .inl (cB, 1200, .inl g)), (q, .inr (0, [.ref pa, .int (iI (zs))])), (pa, .inl (cI, 306, .inl f))] (fun r u => ((∃ v : Nat, r = jI (v : Int) ∧ NBR X n (pt - (n : Int)) kf s0 v) ∨ (r = jI (-1) ∧ NBno X n (pt - (n : Int)) kf s0)) ∧ ∃ (f' : Nat → Int32) (zs' : Int), u = [(x, .inr (1, [.ref dg, .int (iI (((dl X : Nat) : Int))), .int (iI (pt)), .int (iI (zl)), .ref q])), (dg, .inl (cB, 1200, .inl g)), (q, .inr (0, [.ref pa, .int (iI (zs'))])), (pa, .inl (cI, 306, .inl f'))]) 0 0 := by
  intro sz0
  refine Met.ofW (cc := b_Ed_neighbourReadBack) (maxL := 11) (ret := (some .long)) (by decide) rfl ?_
  intro p e s m args below meth c s₁ B hml hv
  obtain ⟨rfl, hsz, hP, hK, hD0, hE⟩ := hv
  have hx := B.exec
  have hb := B.bytes
  have hr := B.returns
  have hts := atoms_spec (ws := Cond.code m_Ed_neighbourReadBack b_Ed_neighbourReadBack 11 (some .long) :: gw) B.pre
  have hown : s.vm.findClass R_Ed = some m.cls := findClass_of_methodNamed B.named
  have hlocks := B.notSynchronized
  subst hsz
  have hD := hD0.self (sz := s.heap.size)
  generalize hAe : va_A [(x, .inr (1, [.ref dg, .int (iI (((dl X : Nat) : Int))), .int (iI (pt)), .int (iI (zl)), .ref q])), (dg, .inl (cB, 1200, .inl g)), (q, .inr (0, [.ref pa, .int (iI (zs))])), (pa, .inl (cI, 306, .inl f))] s.heap.size = A at hD hE ⊢
  have hA : ∀ q : Nat, s.heap.size ≤ q → A q := fun q h => by rw [← hAe]; exact Or.inr h
  have hS : va_S A s.heap s.heap [] := va_S.rf
  have hl := lv_entry ([.ref x, .int (iI ((n : Int))), .long (jI ((s0 : Int))), .ref (ad kf)]) (n := 11) (Nat.le_of_ble_eq_true rfl)
  rw [lg_entry_eq]
  generalize (lg_sl ([.ref x, .int (iI ((n : Int))), .long (jI ((s0 : Int))), .ref (ad kf)]) ++ List.replicate (11 - (lg_sl ([.ref x, .int (iI ((n : Int))), .long (jI ((s0 : Int))), .ref (ad kf)])).length) Slot.unset).toArray = ls at hl ⊢
  have hl : lv_has ls 11 [(0, .ref x), (1, .int (iI ((n : Int)))), (2, .long (jI ((s0 : Int)))), (4, .ref (ad kf))] := hl
  have hX12 := hnm.1
  obtain ⟨bw, hbw⟩ : ∃ bw : Nat, bw = X / 10 ^ (dl X - n) := ⟨_, rfl⟩
  have hbl := nb_18 (X := X) (n := n) (by omega) h18
  rw [← hbw] at hbl
  refine lv_aload_n hx hb d_Ed_neighbourReadBack_0 rfl (lv_at hl 0 rfl) ?_
  refine lv_iload_n hx hb d_Ed_neighbourReadBack_1 rfl (lv_at hl 1 rfl) ?_
  refine c_fl (wc := [(x, .inr (1, [.ref dg, .int (iI (((dl X : Nat) : Int))), .int (iI (pt)), .int (iI (zl)), .ref q])), (dg, .inl (cB, 1200, .inl g))]) (wr := [(q, .inr (0, [.ref pa, .int (iI (zs))])), (pa, .inl (cI, 306, .inl f))]) (va_runV (C := "ExactDigits") (As := [.int (iI ((n : Int)))]) (rest := []) ⟨hx, hb, hml, hown, hts⟩ (c_Ed_firstDigits l D cB cI cJ t5 ad x dg q g pt zl X n hnm (by omega) h18 s.heap.size) (cwV 1 hts (gV tw_259 tw_261 ts_9 tw_1 tw_262) rfl rfl rfl (by decide +kernel) ⟨Nat.le_of_ble_eq_true rfl, Nat.le_of_ble_eq_true rfl⟩) ⟨c_blind (eX_X t5 ad), va_recv (ci := 1) (q0 := 0) hK hP rfl rfl, fun U hU hW => c_pre (wc := [(x, .inr (1, [.ref dg, .int (iI (((dl X : Nat) : Int))), .int (iI (pt)), .int (iI (zl)), .ref q])), (dg, .inl (cB, 1200, .inl g))]) (eX_X t5 ad) hE hK hP hD hS hA [0, 1] rfl (by decide) U hU hW⟩ rfl rfl hl.1 rfl (lv_room (Nat.le_of_ble_eq_true rfl)) d_Ed_neighbourReadBack_2 ⟨Nat.le_of_ble_eq_true rfl, Nat.le_of_ble_eq_true rfl⟩) hP hD hS hA [0, 1] [2, 3] rfl rfl (by decide) (by decide) (fun r u H locs hp hP hD hS => ?_)
  obtain ⟨rfl, rfl⟩ := hp
  have hP : va_P D ecl [(q, .inr (0, [.ref pa, .int (iI (zs))])), (pa, .inl (cI, 306, .inl f)), (x, .inr (1, [.ref dg, .int (iI (((dl X : Nat) : Int))), .int (iI (pt)), .int (iI (zl)), .ref q])), (dg, .inl (cB, 1200, .inl g))] H := hP
  have hD : va_D A [(q, .inr (0, [.ref pa, .int (iI (zs))])), (pa, .inl (cI, 306, .inl f)), (x, .inr (1, [.ref dg, .int (iI (((dl X : Nat) : Int))), .int (iI (pt)), .int (iI (zl)), .ref q])), (dg, .inl (cB, 1200, .inl g))] := hD
  refine ed_tj (y := (bw : Int)) (by rw [hbw]) ?_
  refine lv_lstore hx hb d_Ed_neighbourReadBack_5 hl (by decide) rfl (fun ls hl => ?_)
  have hl : lv_has ls 11 [(5, .long (jI ((bw : Int)))), (0, .ref x), (1, .int (iI ((n : Int)))), (2, .long (jI ((s0 : Int)))), (4, .ref (ad kf))] := hl
  refine lv_aload_n hx hb d_Ed_neighbourReadBack_7 rfl (lv_at hl 1 rfl) ?_
  refine lv_iload_n hx hb d_Ed_neighbourReadBack_8 rfl (lv_at hl 2 rfl) ?_
  refine lv_lload hx hb d_Ed_neighbourReadBack_9 (lv_at hl 0 rfl) ?_
  refine c_fi (wc := [(x, .inr (1, [.ref dg, .int (iI (((dl X : Nat) : Int))), .int (iI (pt)), .int (iI (zl)), .ref q])), (dg, .inl (cB, 1200, .inl g))]) (wr := [(q, .inr (0, [.ref pa, .int (iI (zs))])), (pa, .inl (cI, 306, .inl f))]) (va_runV (C := "ExactDigits") (As := [.int (iI ((n : Int))), .long (jI ((bw : Int)))]) (rest := []) ⟨hx, hb, hml, hown, hts⟩ (c_Ed_isNearerAbove l D cB cI cJ t5 ad x dg q g pt zl X n bw hnm hn hbw (by omega) H.size) (cwV 2 hts (gV tw_264 tw_266 ts_10 tw_1 tw_267) rfl rfl rfl (by decide +kernel) ⟨Nat.le_of_ble_eq_true rfl, Nat.le_of_ble_eq_true rfl⟩) ⟨c_blind (eX_X t5 ad), va_recv (ci := 1) (q0 := 2) hK hP rfl rfl, fun U hU hW => c_pre (wc := [(x, .inr (1, [.ref dg, .int (iI (((dl X : Nat) : Int))), .int (iI (pt)), .int (iI (zl)), .ref q])), (dg, .inl (cB, 1200, .inl g))]) (eX_X t5 ad) hE hK hP hD hS hA [2, 3] rfl (by decide) U hU hW⟩ rfl rfl hl.1 rfl (lv_room (Nat.le_of_ble_eq_true rfl)) d_Ed_neighbourReadBack_11 ⟨Nat.le_of_ble_eq_true rfl, Nat.le_of_ble_eq_true rfl⟩) hP hD hS hA [2, 3] [0, 1] rfl rfl (by decide) (by decide) (fun r u H locs hp hP hD hS => ?_)
  obtain ⟨hup, rfl⟩ := hp
  have hP : va_P D ecl [(q, .inr (0, [.ref pa, .int (iI (zs))])), (pa, .inl (cI, 306, .inl f)), (x, .inr (1, [.ref dg, .int (iI (((dl X : Nat) : Int))), .int (iI (pt)), .int (iI (zl)), .ref q])), (dg, .inl (cB, 1200, .inl g))] H := hP
  have hD : va_D A [(q, .inr (0, [.ref pa, .int (iI (zs))])), (pa, .inl (cI, 306, .inl f)), (x, .inr (1, [.ref dg, .int (iI (((dl X : Nat) : Int))), .int (iI (pt)), .int (iI (zl)), .ref q])), (dg, .inl (cB, 1200, .inl g))] := hD
  have hP := hP.sub (ws' := [(x, .inr (1, [.ref dg, .int (iI (((dl X : Nat) : Int))), .int (iI (pt)), .int (iI (zl)), .ref q])), (dg, .inl (cB, 1200, .inl g)), (q, .inr (0, [.ref pa, .int (iI (zs))])), (pa, .inl (cI, 306, .inl f))]) [2, 3, 0, 1] rfl
  have hD := hD.sub (ws' := [(x, .inr (1, [.ref dg, .int (iI (((dl X : Nat) : Int))), .int (iI (pt)), .int (iI (zl)), .ref q])), (dg, .inl (cB, 1200, .inl g)), (q, .inr (0, [.ref pa, .int (iI (zs))])), (pa, .inl (cI, 306, .inl f))]) [2, 3, 0, 1] (by decide) rfl
  rcases hup with ⟨rfl, hup⟩ | ⟨rfl, hup⟩
  · skip
    refine ed_pc (pc' := 14) rfl ?_
    refine ed_if_eq (tgt := 24) hx hb d_Ed_neighbourReadBack_14 rfl (by omega) (fun h_1 => ?_) (fun h_1 => ?_)
    · exact absurd h_1 (by omega)
    · skip
      refine ed_pc (pc' := 17) rfl ?_
      refine lv_lload hx hb d_Ed_neighbourReadBack_17 (lv_at hl 0 rfl) ?_
      refine lv_lconst (v := jI 1) hx hb d_Ed_neighbourReadBack_19 (by decide +kernel) ?_
      refine ed_ladd hx hb d_Ed_neighbourReadBack_20 ?_
      refine lv_goto (tgt := 26) hx hb d_Ed_neighbourReadBack_21 rfl ?_
      refine ed_tj (y := ((bw + 1 : Nat) : Int)) (by omega) ?_
      refine lv_lstore hx hb d_Ed_neighbourReadBack_26 hl (by decide) rfl (fun ls hl => ?_)
      have hl : lv_has ls 11 [(7, .long (jI (((bw + 1 : Nat) : Int)))), (5, .long (jI ((bw : Int)))), (0, .ref x), (1, .int (iI ((n : Int)))), (2, .long (jI ((s0 : Int)))), (4, .ref (ad kf))] := hl
      refine lv_lload hx hb d_Ed_neighbourReadBack_28 (lv_at hl 0 rfl) ?_
      refine lv_lload hx hb d_Ed_neighbourReadBack_30 (lv_at hl 1 rfl) ?_
      refine ed_pc (pc' := 32) rfl ?_
      refine ed_lif_ne (tgt := 43) hx hb d_Ed_neighbourReadBack_32 d_Ed_neighbourReadBack_33 rfl (by omega) (by omega) (fun h_2 => ?_) (fun h_2 => ?_)
      · skip
        refine ed_pc (pc' := 43) rfl ?_
        refine lv_lload hx hb d_Ed_neighbourReadBack_43 (lv_at hl 1 rfl) ?_
        refine lv_lstore hx hb d_Ed_neighbourReadBack_45 hl (by decide) rfl (fun ls hl => ?_)
        have hl : lv_has ls 11 [(9, .long (jI ((bw : Int)))), (7, .long (jI (((bw + 1 : Nat) : Int)))), (5, .long (jI ((bw : Int)))), (0, .ref x), (1, .int (iI ((n : Int)))), (2, .long (jI ((s0 : Int)))), (4, .ref (ad kf))] := hl
        refine lv_aload_n hx hb d_Ed_neighbourReadBack_47 rfl (lv_at hl 3 rfl) ?_
        refine lv_lload hx hb d_Ed_neighbourReadBack_48 (lv_at hl 1 rfl) ?_
        refine lv_aload_n hx hb d_Ed_neighbourReadBack_50 rfl (lv_at hl 3 rfl) ?_
        refine va_get (D := D) (ci := 1) (v := .int (iI (pt))) (C := R_Ed) (T := T_Ed) (N := 5) hx hb hts (fun w h => List.mem_cons_of_mem _ (in_Ed w h)) hown hK hP 0 rfl rfl 2 (by decide) (hts _ (List.mem_cons_of_mem _ tw_42)) (fun _ h9 => h9) rfl d_Ed_neighbourReadBack_51 ?_
        refine lv_iload_n hx hb d_Ed_neighbourReadBack_54 rfl (lv_at hl 4 rfl) ?_
        refine ed_pc (pc' := 55) rfl ?_
        refine ed_isub hx hb d_Ed_neighbourReadBack_55 ?_
        refine lv_lload_n hx hb d_Ed_neighbourReadBack_56 rfl (lv_at hl 5 rfl) ?_
        refine lv_aload hx hb d_Ed_neighbourReadBack_57 (lv_at hl 6 rfl) ?_
        refine c_fi (wc := [(x, .inr (1, [.ref dg, .int (iI (((dl X : Nat) : Int))), .int (iI (pt)), .int (iI (zl)), .ref q])), (dg, .inl (cB, 1200, .inl g)), (q, .inr (0, [.ref pa, .int (iI (zs))])), (pa, .inl (cI, 306, .inl f))]) (wr := []) (va_runV (C := "ExactDigits") (As := [.long (jI (((bw + 1 : Nat) : Int))), .int (iI ((pt) - ((n : Int)))), .long (jI ((s0 : Int))), .ref (ad kf)]) (rest := []) ⟨hx, hb, hml, hown, hts⟩ (c_Ed_readsBack l D cB cI cJ t5 ad x dg q pa g f (zs) ((dl X : Nat) : Int) pt zl (pt - (n : Int)) (bw + 1) kf s0 hkf (by omega) hs0 (by omega) H.size) (cwV 4 hts (gV tw_268 tw_270 ts_11 tw_1 tw_271) rfl rfl rfl (by decide +kernel) ⟨Nat.le_of_ble_eq_true rfl, Nat.le_of_ble_eq_true rfl⟩) ⟨c_blind (eX_X t5 ad), va_recv (ci := 1) (q0 := 0) hK hP rfl rfl, fun U hU hW => c_pre (wc := [(x, .inr (1, [.ref dg, .int (iI (((dl X : Nat) : Int))), .int (iI (pt)), .int (iI (zl)), .ref q])), (dg, .inl (cB, 1200, .inl g)), (q, .inr (0, [.ref pa, .int (iI (zs))])), (pa, .inl (cI, 306, .inl f))]) (eX_X t5 ad) hE hK hP hD hS hA [0, 1, 2, 3] rfl (by decide) U hU hW⟩ rfl rfl hl.1 rfl (lv_room (Nat.le_of_ble_eq_true rfl)) d_Ed_neighbourReadBack_59 ⟨Nat.le_of_ble_eq_true rfl, Nat.le_of_ble_eq_true rfl⟩) hP hD hS hA [0, 1, 2, 3] [] rfl rfl (by decide) (by decide) (fun r u H locs hp hP hD hS => ?_)
        obtain ⟨hrb1, f1, zs1, rfl⟩ := hp
        have hP : va_P D ecl [(x, .inr (1, [.ref dg, .int (iI (((dl X : Nat) : Int))), .int (iI (pt)), .int (iI (zl)), .ref q])), (dg, .inl (cB, 1200, .inl g)), (q, .inr (0, [.ref pa, .int (iI (zs1))])), (pa, .inl (cI, 306, .inl f1))] H := hP
        have hD : va_D A [(x, .inr (1, [.ref dg, .int (iI (((dl X : Nat) : Int))), .int (iI (pt)), .int (iI (zl)), .ref q])), (dg, .inl (cB, 1200, .inl g)), (q, .inr (0, [.ref pa, .int (iI (zs1))])), (pa, .inl (cI, 306, .inl f1))] := hD
        rcases hrb1 with ⟨rfl, hrb1⟩ | ⟨rfl, hrb1⟩
        · skip
          refine ed_pc (pc' := 62) rfl ?_
          refine ed_if_eq (tgt := 68) hx hb d_Ed_neighbourReadBack_62 rfl (by omega) (fun h_3 => ?_) (fun h_3 => ?_)
          · exact absurd h_3 (by omega)
          · skip
            refine ed_pc (pc' := 65) rfl ?_
            refine lv_lload hx hb d_Ed_neighbourReadBack_65 (lv_at hl 1 rfl) ?_
            exact W.lret (v := (jI (((bw + 1 : Nat) : Int)))) hx hb hr (fun t9 ht9 hW9 => ⟨⟨(jI (((bw + 1 : Nat) : Int))), [(x, .inr (1, [.ref dg, .int (iI (((dl X : Nat) : Int))), .int (iI (pt)), .int (iI (zl)), .ref q])), (dg, .inl (cB, 1200, .inl g)), (q, .inr (0, [.ref pa, .int (iI (zs1))])), (pa, .inl (cI, 306, .inl f1))], rfl, ⟨Or.inl ⟨bw + 1, rfl, by unfold NBR; rw [← hbw]; exact Or.inl ⟨hup, Or.inl ⟨hrb1, rfl⟩⟩⟩, f1, zs1, rfl⟩, by rw [ht9]; exact hP, hD⟩, hS.F ht9⟩) hS.2.2 d_Ed_neighbourReadBack_67
        · skip
          refine ed_pc (pc' := 62) rfl ?_
          refine ed_if_eq (tgt := 68) hx hb d_Ed_neighbourReadBack_62 rfl (by omega) (fun h_4 => ?_) (fun h_4 => ?_)
          · skip
            refine ed_pc (pc' := 68) rfl ?_
            refine lv_aload_n hx hb d_Ed_neighbourReadBack_68 rfl (lv_at hl 3 rfl) ?_
            refine lv_lload hx hb d_Ed_neighbourReadBack_69 (lv_at hl 0 rfl) ?_
            refine lv_aload_n hx hb d_Ed_neighbourReadBack_71 rfl (lv_at hl 3 rfl) ?_
            refine va_get (D := D) (ci := 1) (v := .int (iI (pt))) (C := R_Ed) (T := T_Ed) (N := 5) hx hb hts (fun w h => List.mem_cons_of_mem _ (in_Ed w h)) hown hK hP 0 rfl rfl 2 (by decide) (hts _ (List.mem_cons_of_mem _ tw_42)) (fun _ h9 => h9) rfl d_Ed_neighbourReadBack_72 ?_
            refine lv_iload_n hx hb d_Ed_neighbourReadBack_75 rfl (lv_at hl 4 rfl) ?_
            refine ed_isub hx hb d_Ed_neighbourReadBack_76 ?_
            refine lv_lload_n hx hb d_Ed_neighbourReadBack_77 rfl (lv_at hl 5 rfl) ?_
            refine ed_pc (pc' := 78) rfl ?_
            refine lv_aload hx hb d_Ed_neighbourReadBack_78 (lv_at hl 6 rfl) ?_
            refine c_fi (wc := [(x, .inr (1, [.ref dg, .int (iI (((dl X : Nat) : Int))), .int (iI (pt)), .int (iI (zl)), .ref q])), (dg, .inl (cB, 1200, .inl g)), (q, .inr (0, [.ref pa, .int (iI (zs1))])), (pa, .inl (cI, 306, .inl f1))]) (wr := []) (va_runV (C := "ExactDigits") (As := [.long (jI ((bw : Int))), .int (iI ((pt) - ((n : Int)))), .long (jI ((s0 : Int))), .ref (ad kf)]) (rest := []) ⟨hx, hb, hml, hown, hts⟩ (c_Ed_readsBack l D cB cI cJ t5 ad x dg q pa g f1 (zs1) ((dl X : Nat) : Int) pt zl (pt - (n : Int)) bw kf s0 hkf (by omega) hs0 (by omega) H.size) (cwV 4 hts (gV tw_268 tw_270 ts_11 tw_1 tw_271) rfl rfl rfl (by decide +kernel) ⟨Nat.le_of_ble_eq_true rfl, Nat.le_of_ble_eq_true rfl⟩) ⟨c_blind (eX_X t5 ad), va_recv (ci := 1) (q0 := 0) hK hP rfl rfl, fun U hU hW => c_pre (wc := [(x, .inr (1, [.ref dg, .int (iI (((dl X : Nat) : Int))), .int (iI (pt)), .int (iI (zl)), .ref q])), (dg, .inl (cB, 1200, .inl g)), (q, .inr (0, [.ref pa, .int (iI (zs1))])), (pa, .inl (cI, 306, .inl f1))]) (eX_X t5 ad) hE hK hP hD hS hA [0, 1, 2, 3] rfl (by decide) U hU hW⟩ rfl rfl hl.1 rfl (lv_room (Nat.le_of_ble_eq_true rfl)) d_Ed_neighbourReadBack_80 ⟨Nat.le_of_ble_eq_true rfl, Nat.le_of_ble_eq_true rfl⟩) hP hD hS hA [0, 1, 2, 3] [] rfl rfl (by decide) (by decide) (fun r u H locs hp hP hD hS => ?_)
            obtain ⟨hrb2, f2, zs2, rfl⟩ := hp
            have hP : va_P D ecl [(x, .inr (1, [.ref dg, .int (iI (((dl X : Nat) : Int))), .int (iI (pt)), .int (iI (zl)), .ref q])), (dg, .inl (cB, 1200, .inl g)), (q, .inr (0, [.ref pa, .int (iI (zs2))])), (pa, .inl (cI, 306, .inl f2))] H := hP
            have hD : va_D A [(x, .inr (1, [.ref dg, .int (iI (((dl X : Nat) : Int))), .int (iI (pt)), .int (iI (zl)), .ref q])), (dg, .inl (cB, 1200, .inl g)), (q, .inr (0, [.ref pa, .int (iI (zs2))])), (pa, .inl (cI, 306, .inl f2))] := hD
            rcases hrb2 with ⟨rfl, hrb2⟩ | ⟨rfl, hrb2⟩
            · skip
              refine ed_pc (pc' := 83) rfl ?_
              refine ed_if_eq (tgt := 91) hx hb d_Ed_neighbourReadBack_83 rfl (by omega) (fun h_5 => ?_) (fun h_5 => ?_)
              · exact absurd h_5 (by omega)
              · skip
                refine ed_pc (pc' := 86) rfl ?_
                refine lv_lload hx hb d_Ed_neighbourReadBack_86 (lv_at hl 0 rfl) ?_
                refine lv_goto (tgt := 94) hx hb d_Ed_neighbourReadBack_88 rfl ?_
                exact W.lret (v := (jI ((bw : Int)))) hx hb hr (fun t9 ht9 hW9 => ⟨⟨(jI ((bw : Int))), [(x, .inr (1, [.ref dg, .int (iI (((dl X : Nat) : Int))), .int (iI (pt)), .int (iI (zl)), .ref q])), (dg, .inl (cB, 1200, .inl g)), (q, .inr (0, [.ref pa, .int (iI (zs2))])), (pa, .inl (cI, 306, .inl f2))], rfl, ⟨Or.inl ⟨bw, rfl, by unfold NBR; rw [← hbw]; exact Or.inl ⟨hup, Or.inr ⟨hrb1, hrb2, rfl⟩⟩⟩, f2, zs2, rfl⟩, by rw [ht9]; exact hP, hD⟩, hS.F ht9⟩) hS.2.2 d_Ed_neighbourReadBack_94
            · skip
              refine ed_pc (pc' := 83) rfl ?_
              refine ed_if_eq (tgt := 91) hx hb d_Ed_neighbourReadBack_83 rfl (by omega) (fun h_6 => ?_) (fun h_6 => ?_)
              · skip
                refine ed_pc (pc' := 91) rfl ?_
                refine lv_ldc2 (v := (-1)) hx hb hown (hts _ (List.mem_cons_of_mem _ tw_272)) d_Ed_neighbourReadBack_91 ?_
                refine ed_tl (y := (jI (-1))) (by decide +kernel) ?_
                exact W.lret (v := (jI (-1))) hx hb hr (fun t9 ht9 hW9 => ⟨⟨(jI (-1)), [(x, .inr (1, [.ref dg, .int (iI (((dl X : Nat) : Int))), .int (iI (pt)), .int (iI (zl)), .ref q])), (dg, .inl (cB, 1200, .inl g)), (q, .inr (0, [.ref pa, .int (iI (zs2))])), (pa, .inl (cI, 306, .inl f2))], rfl, ⟨Or.inr ⟨rfl, by unfold NBno; rw [← hbw]; exact ⟨hrb2, hrb1⟩⟩, f2, zs2, rfl⟩, by rw [ht9]; exact hP, hD⟩, hS.F ht9⟩) hS.2.2 d_Ed_neighbourReadBack_94
              · exact absurd h_6 (by omega)
          · exact absurd h_4 (by omega)
      · exact absurd h_2 (by omega)
  · skip
    refine ed_pc (pc' := 14) rfl ?_
    refine ed_if_eq (tgt := 24) hx hb d_Ed_neighbourReadBack_14 rfl (by omega) (fun h_7 => ?_) (fun h_7 => ?_)
    · skip
      refine ed_pc (pc' := 24) rfl ?_
      refine lv_lload hx hb d_Ed_neighbourReadBack_24 (lv_at hl 0 rfl) ?_
      refine lv_lstore hx hb d_Ed_neighbourReadBack_26 hl (by decide) rfl (fun ls hl => ?_)
      have hl : lv_has ls 11 [(7, .long (jI ((bw : Int)))), (5, .long (jI ((bw : Int)))), (0, .ref x), (1, .int (iI ((n : Int)))), (2, .long (jI ((s0 : Int)))), (4, .ref (ad kf))] := hl
      refine lv_lload hx hb d_Ed_neighbourReadBack_28 (lv_at hl 0 rfl) ?_
      refine lv_lload hx hb d_Ed_neighbourReadBack_30 (lv_at hl 1 rfl) ?_
      refine ed_lif_ne (tgt := 43) hx hb d_Ed_neighbourReadBack_32 d_Ed_neighbourReadBack_33 rfl (by omega) (by omega) (fun h_8 => ?_) (fun h_8 => ?_)
      · exact absurd h_8 (by omega)
      · skip
        refine ed_pc (pc' := 36) rfl ?_
        refine lv_lload hx hb d_Ed_neighbourReadBack_36 (lv_at hl 1 rfl) ?_
        refine lv_lconst (v := jI 1) hx hb d_Ed_neighbourReadBack_38 (by decide +kernel) ?_
        refine ed_pc (pc' := 39) rfl ?_
        refine ed_ladd hx hb d_Ed_neighbourReadBack_39 ?_
        refine lv_goto (tgt := 45) hx hb d_Ed_neighbourReadBack_40 rfl ?_
        refine ed_tj (y := ((bw + 1 : Nat) : Int)) (by omega) ?_
        refine lv_lstore hx hb d_Ed_neighbourReadBack_45 hl (by decide) rfl (fun ls hl => ?_)
        have hl : lv_has ls 11 [(9, .long (jI (((bw + 1 : Nat) : Int)))), (7, .long (jI ((bw : Int)))), (5, .long (jI ((bw : Int)))), (0, .ref x), (1, .int (iI ((n : Int)))), (2, .long (jI ((s0 : Int)))), (4, .ref (ad kf))] := hl
        refine lv_aload_n hx hb d_Ed_neighbourReadBack_47 rfl (lv_at hl 3 rfl) ?_
        refine lv_lload hx hb d_Ed_neighbourReadBack_48 (lv_at hl 1 rfl) ?_
        refine lv_aload_n hx hb d_Ed_neighbourReadBack_50 rfl (lv_at hl 3 rfl) ?_
        refine va_get (D := D) (ci := 1) (v := .int (iI (pt))) (C := R_Ed) (T := T_Ed) (N := 5) hx hb hts (fun w h => List.mem_cons_of_mem _ (in_Ed w h)) hown hK hP 0 rfl rfl 2 (by decide) (hts _ (List.mem_cons_of_mem _ tw_42)) (fun _ h9 => h9) rfl d_Ed_neighbourReadBack_51 ?_
        refine lv_iload_n hx hb d_Ed_neighbourReadBack_54 rfl (lv_at hl 4 rfl) ?_
        refine ed_pc (pc' := 55) rfl ?_
        refine ed_isub hx hb d_Ed_neighbourReadBack_55 ?_
        refine lv_lload_n hx hb d_Ed_neighbourReadBack_56 rfl (lv_at hl 5 rfl) ?_
        refine lv_aload hx hb d_Ed_neighbourReadBack_57 (lv_at hl 6 rfl) ?_
        refine c_fi (wc := [(x, .inr (1, [.ref dg, .int (iI (((dl X : Nat) : Int))), .int (iI (pt)), .int (iI (zl)), .ref q])), (dg, .inl (cB, 1200, .inl g)), (q, .inr (0, [.ref pa, .int (iI (zs))])), (pa, .inl (cI, 306, .inl f))]) (wr := []) (va_runV (C := "ExactDigits") (As := [.long (jI ((bw : Int))), .int (iI ((pt) - ((n : Int)))), .long (jI ((s0 : Int))), .ref (ad kf)]) (rest := []) ⟨hx, hb, hml, hown, hts⟩ (c_Ed_readsBack l D cB cI cJ t5 ad x dg q pa g f (zs) ((dl X : Nat) : Int) pt zl (pt - (n : Int)) bw kf s0 hkf (by omega) hs0 (by omega) H.size) (cwV 4 hts (gV tw_268 tw_270 ts_11 tw_1 tw_271) rfl rfl rfl (by decide +kernel) ⟨Nat.le_of_ble_eq_true rfl, Nat.le_of_ble_eq_true rfl⟩) ⟨c_blind (eX_X t5 ad), va_recv (ci := 1) (q0 := 0) hK hP rfl rfl, fun U hU hW => c_pre (wc := [(x, .inr (1, [.ref dg, .int (iI (((dl X : Nat) : Int))), .int (iI (pt)), .int (iI (zl)), .ref q])), (dg, .inl (cB, 1200, .inl g)), (q, .inr (0, [.ref pa, .int (iI (zs))])), (pa, .inl (cI, 306, .inl f))]) (eX_X t5 ad) hE hK hP hD hS hA [0, 1, 2, 3] rfl (by decide) U hU hW⟩ rfl rfl hl.1 rfl (lv_room (Nat.le_of_ble_eq_true rfl)) d_Ed_neighbourReadBack_59 ⟨Nat.le_of_ble_eq_true rfl, Nat.le_of_ble_eq_true rfl⟩) hP hD hS hA [0, 1, 2, 3] [] rfl rfl (by decide) (by decide) (fun r u H locs hp hP hD hS => ?_)
        obtain ⟨hrb1, f1, zs1, rfl⟩ := hp
        have hP : va_P D ecl [(x, .inr (1, [.ref dg, .int (iI (((dl X : Nat) : Int))), .int (iI (pt)), .int (iI (zl)), .ref q])), (dg, .inl (cB, 1200, .inl g)), (q, .inr (0, [.ref pa, .int (iI (zs1))])), (pa, .inl (cI, 306, .inl f1))] H := hP
        have hD : va_D A [(x, .inr (1, [.ref dg, .int (iI (((dl X : Nat) : Int))), .int (iI (pt)), .int (iI (zl)), .ref q])), (dg, .inl (cB, 1200, .inl g)), (q, .inr (0, [.ref pa, .int (iI (zs1))])), (pa, .inl (cI, 306, .inl f1))] := hD
        rcases hrb1 with ⟨rfl, hrb1⟩ | ⟨rfl, hrb1⟩
        · skip
          refine ed_pc (pc' := 62) rfl ?_
          refine ed_if_eq (tgt := 68) hx hb d_Ed_neighbourReadBack_62 rfl (by omega) (fun h_9 => ?_) (fun h_9 => ?_)
          · exact absurd h_9 (by omega)
          · skip
            refine ed_pc (pc' := 65) rfl ?_
            refine lv_lload hx hb d_Ed_neighbourReadBack_65 (lv_at hl 1 rfl) ?_
            exact W.lret (v := (jI ((bw : Int)))) hx hb hr (fun t9 ht9 hW9 => ⟨⟨(jI ((bw : Int))), [(x, .inr (1, [.ref dg, .int (iI (((dl X : Nat) : Int))), .int (iI (pt)), .int (iI (zl)), .ref q])), (dg, .inl (cB, 1200, .inl g)), (q, .inr (0, [.ref pa, .int (iI (zs1))])), (pa, .inl (cI, 306, .inl f1))], rfl, ⟨Or.inl ⟨bw, rfl, by unfold NBR; rw [← hbw]; exact Or.inr ⟨hup, Or.inl ⟨hrb1, rfl⟩⟩⟩, f1, zs1, rfl⟩, by rw [ht9]; exact hP, hD⟩, hS.F ht9⟩) hS.2.2 d_Ed_neighbourReadBack_67
        · skip
          refine ed_pc (pc' := 62) rfl ?_
          refine ed_if_eq (tgt := 68) hx hb d_Ed_neighbourReadBack_62 rfl (by omega) (fun h_10 => ?_) (fun h_10 => ?_)
          · skip
            refine ed_pc (pc' := 68) rfl ?_
            refine lv_aload_n hx hb d_Ed_neighbourReadBack_68 rfl (lv_at hl 3 rfl) ?_
            refine lv_lload hx hb d_Ed_neighbourReadBack_69 (lv_at hl 0 rfl) ?_
            refine lv_aload_n hx hb d_Ed_neighbourReadBack_71 rfl (lv_at hl 3 rfl) ?_
            refine va_get (D := D) (ci := 1) (v := .int (iI (pt))) (C := R_Ed) (T := T_Ed) (N := 5) hx hb hts (fun w h => List.mem_cons_of_mem _ (in_Ed w h)) hown hK hP 0 rfl rfl 2 (by decide) (hts _ (List.mem_cons_of_mem _ tw_42)) (fun _ h9 => h9) rfl d_Ed_neighbourReadBack_72 ?_
            refine lv_iload_n hx hb d_Ed_neighbourReadBack_75 rfl (lv_at hl 4 rfl) ?_
            refine ed_isub hx hb d_Ed_neighbourReadBack_76 ?_
            refine lv_lload_n hx hb d_Ed_neighbourReadBack_77 rfl (lv_at hl 5 rfl) ?_
            refine ed_pc (pc' := 78) rfl ?_
            refine lv_aload hx hb d_Ed_neighbourReadBack_78 (lv_at hl 6 rfl) ?_
            refine c_fi (wc := [(x, .inr (1, [.ref dg, .int (iI (((dl X : Nat) : Int))), .int (iI (pt)), .int (iI (zl)), .ref q])), (dg, .inl (cB, 1200, .inl g)), (q, .inr (0, [.ref pa, .int (iI (zs1))])), (pa, .inl (cI, 306, .inl f1))]) (wr := []) (va_runV (C := "ExactDigits") (As := [.long (jI (((bw + 1 : Nat) : Int))), .int (iI ((pt) - ((n : Int)))), .long (jI ((s0 : Int))), .ref (ad kf)]) (rest := []) ⟨hx, hb, hml, hown, hts⟩ (c_Ed_readsBack l D cB cI cJ t5 ad x dg q pa g f1 (zs1) ((dl X : Nat) : Int) pt zl (pt - (n : Int)) (bw + 1) kf s0 hkf (by omega) hs0 (by omega) H.size) (cwV 4 hts (gV tw_268 tw_270 ts_11 tw_1 tw_271) rfl rfl rfl (by decide +kernel) ⟨Nat.le_of_ble_eq_true rfl, Nat.le_of_ble_eq_true rfl⟩) ⟨c_blind (eX_X t5 ad), va_recv (ci := 1) (q0 := 0) hK hP rfl rfl, fun U hU hW => c_pre (wc := [(x, .inr (1, [.ref dg, .int (iI (((dl X : Nat) : Int))), .int (iI (pt)), .int (iI (zl)), .ref q])), (dg, .inl (cB, 1200, .inl g)), (q, .inr (0, [.ref pa, .int (iI (zs1))])), (pa, .inl (cI, 306, .inl f1))]) (eX_X t5 ad) hE hK hP hD hS hA [0, 1, 2, 3] rfl (by decide) U hU hW⟩ rfl rfl hl.1 rfl (lv_room (Nat.le_of_ble_eq_true rfl)) d_Ed_neighbourReadBack_80 ⟨Nat.le_of_ble_eq_true rfl, Nat.le_of_ble_eq_true rfl⟩) hP hD hS hA [0, 1, 2, 3] [] rfl rfl (by decide) (by decide) (fun r u H locs hp hP hD hS => ?_)
            obtain ⟨hrb2, f2, zs2, rfl⟩ := hp
            have hP : va_P D ecl [(x, .inr (1, [.ref dg, .int (iI (((dl X : Nat) : Int))), .int (iI (pt)), .int (iI (zl)), .ref q])), (dg, .inl (cB, 1200, .inl g)), (q, .inr (0, [.ref pa, .int (iI (zs2))])), (pa, .inl (cI, 306, .inl f2))] H := hP
            have hD : va_D A [(x, .inr (1, [.ref dg, .int (iI (((dl X : Nat) : Int))), .int (iI (pt)), .int (iI (zl)), .ref q])), (dg, .inl (cB, 1200, .inl g)), (q, .inr (0, [.ref pa, .int (iI (zs2))])), (pa, .inl (cI, 306, .inl f2))] := hD
            rcases hrb2 with ⟨rfl, hrb2⟩ | ⟨rfl, hrb2⟩
            · skip
              refine ed_pc (pc' := 83) rfl ?_
              refine ed_if_eq (tgt := 91) hx hb d_Ed_neighbourReadBack_83 rfl (by omega) (fun h_11 => ?_) (fun h_11 => ?_)
              · exact absurd h_11 (by omega)
              · skip
                refine ed_pc (pc' := 86) rfl ?_
                refine lv_lload hx hb d_Ed_neighbourReadBack_86 (lv_at hl 0 rfl) ?_
                refine lv_goto (tgt := 94) hx hb d_Ed_neighbourReadBack_88 rfl ?_
                exact W.lret (v := (jI (((bw + 1 : Nat) : Int)))) hx hb hr (fun t9 ht9 hW9 => ⟨⟨(jI (((bw + 1 : Nat) : Int))), [(x, .inr (1, [.ref dg, .int (iI (((dl X : Nat) : Int))), .int (iI (pt)), .int (iI (zl)), .ref q])), (dg, .inl (cB, 1200, .inl g)), (q, .inr (0, [.ref pa, .int (iI (zs2))])), (pa, .inl (cI, 306, .inl f2))], rfl, ⟨Or.inl ⟨bw + 1, rfl, by unfold NBR; rw [← hbw]; exact Or.inr ⟨hup, Or.inr ⟨hrb1, hrb2, rfl⟩⟩⟩, f2, zs2, rfl⟩, by rw [ht9]; exact hP, hD⟩, hS.F ht9⟩) hS.2.2 d_Ed_neighbourReadBack_94
            · skip
              refine ed_pc (pc' := 83) rfl ?_
              refine ed_if_eq (tgt := 91) hx hb d_Ed_neighbourReadBack_83 rfl (by omega) (fun h_12 => ?_) (fun h_12 => ?_)
              · skip
                refine ed_pc (pc' := 91) rfl ?_
                refine lv_ldc2 (v := (-1)) hx hb hown (hts _ (List.mem_cons_of_mem _ tw_272)) d_Ed_neighbourReadBack_91 ?_
                refine ed_tl (y := (jI (-1))) (by decide +kernel) ?_
                exact W.lret (v := (jI (-1))) hx hb hr (fun t9 ht9 hW9 => ⟨⟨(jI (-1)), [(x, .inr (1, [.ref dg, .int (iI (((dl X : Nat) : Int))), .int (iI (pt)), .int (iI (zl)), .ref q])), (dg, .inl (cB, 1200, .inl g)), (q, .inr (0, [.ref pa, .int (iI (zs2))])), (pa, .inl (cI, 306, .inl f2))], rfl, ⟨Or.inr ⟨rfl, by unfold NBno; rw [← hbw]; exact ⟨hrb1, hrb2⟩⟩, f2, zs2, rfl⟩, by rw [ht9]; exact hP, hD⟩, hS.F ht9⟩) hS.2.2 d_Ed_neighbourReadBack_94
              · exact absurd h_12 (by omega)
          · exact absurd h_10 (by omega)
    · exact absurd h_7 (by omega)
end
section
/-! what reads back with some digits does with one more; seventeen are enough -/
theorem NR_ex {sz inf P M : Nat} {b : Prop} (hs : 0 < sz) : ∃ r, NR sz inf P M b r := by
  obtain ⟨E, q, h1, -⟩ := nr_ex sz P M hs
  by_cases hu : upP P M E q b
  · exact ⟨_, E, q, 1, h1, Or.inl ⟨rfl, hu⟩, rfl⟩
  · exact ⟨_, E, q, 0, h1, Or.inr ⟨rfl, hu⟩, rfl⟩
theorem RB_iff {v kf E m : Nat} {ex : Int} (hkf : kf < 2) (hm : 0 < m) (hm2 : m < 2 ^ (fbz kf + 1)) (hc : 0 < E → 2 ^ fbz kf ≤ m) (hinf : E * 2 ^ fbz kf + m < ifz kf) : RB v ex kf (E * 2 ^ fbz kf + m) ↔ inI (fbz kf + 1) (nP v ex kf) (nM ex) E m := by
  have hz := fz_all kf hkf
  have e : fbz kf + 1 - 1 = fbz kf := Nat.add_sub_cancel _ _
  constructor
  · intro h
    exact rb_of (by omega) (nM_pos ex) h hm hm2 (by rw [e]; exact hc) (by rw [e]; exact hinf) (by rw [e])
  · intro h
    obtain ⟨r, hr⟩ := NR_ex (sz := fbz kf + 1) (inf := ifz kf) (P := nP v ex kf) (M := nM ex) (b := False) (by omega)
    have := rb_to (by omega) (nM_pos ex) hr hm hm2 (by rw [e]; exact hc) (by rw [e]; exact hinf) h
    rw [e] at this
    rw [← this]; exact hr
/-- one denominator for all of them -/
def nC (e : Int) (kf : Nat) : Nat := 10 ^ e.toNat * 2 ^ (-lez kf).toNat
theorem nP_C (w : Nat) (e : Int) (kf : Nat) : nP w e kf = w * nC e kf := by unfold nP nC; rw [Nat.mul_assoc]
theorem nC_pos (e : Int) (kf : Nat) : 0 < nC e kf := Nat.mul_pos (p10_pos _) (p2_pos _)
theorem nP_sc (v i : Nat) (e : Int) (kf : Nat) : nP v (e + (i : Int)) kf * nM e = nP (v * 10 ^ i) e kf * nM (e + (i : Int)) := by
  unfold nP nM
  have h : 10 ^ (e + (i : Int)).toNat * 10 ^ (-e).toNat = 10 ^ i * 10 ^ e.toNat * 10 ^ (-(e + (i : Int))).toNat := by
    rw [← Nat.pow_add, ← Nat.pow_add, ← Nat.pow_add]; congr 1; omega
  calc v * 10 ^ (e + (i : Int)).toNat * 2 ^ (-lez kf).toNat * 10 ^ (-e).toNat = (10 ^ (e + (i : Int)).toNat * 10 ^ (-e).toNat) * (v * 2 ^ (-lez kf).toNat) := by ac_rfl
    _ = (10 ^ i * 10 ^ e.toNat * 10 ^ (-(e + (i : Int))).toNat) * (v * 2 ^ (-lez kf).toNat) := by rw [h]
    _ = v * 10 ^ i * 10 ^ e.toNat * 2 ^ (-lez kf).toNat * 10 ^ (-(e + (i : Int))).toNat := by ac_rfl
theorem inI_sc {sz P M P' M' E m : Nat} (hM : 0 < M) (hM' : 0 < M') (h : P * M' = P' * M) : inI sz P M E m ↔ inI sz P' M' E m := by
  have hB : 0 < M * 2 ^ E := Nat.mul_pos hM (p2_pos _)
  have hB' : 0 < M' * 2 ^ E := Nat.mul_pos hM' (p2_pos _)
  have h2 : P * (M' * 2 ^ E) = P' * (M * 2 ^ E) := by rw [← Nat.mul_assoc, h, Nat.mul_assoc]
  have L : ∀ x, x * (M * 2 ^ E) < 2 * P ↔ x * (M' * 2 ^ E) < 2 * P' := fun x => lt_cross hB hB' h2
  have Q : ∀ x, x * (M * 2 ^ E) = 2 * P ↔ x * (M' * 2 ^ E) = 2 * P' := fun x => eq_cross hB hB' h2
  have G : ∀ x, 2 * P < x * (M * 2 ^ E) ↔ 2 * P' < x * (M' * 2 ^ E) := fun x => by
    have a := L x; have b := Q x
    rcases Nat.lt_trichotomy (x * (M * 2 ^ E)) (2 * P) with z | z | z
    · have := a.mp z; omega
    · have := b.mp z; omega
    · have c1 : ¬ x * (M' * 2 ^ E) < 2 * P' := fun y => by have := a.mpr y; omega
      have c2 : ¬ x * (M' * 2 ^ E) = 2 * P' := fun y => by have := b.mpr y; omega
      omega
  have F : ∀ x, x * (M * 2 ^ E) ≤ 4 * P ↔ x * (M' * 2 ^ E) ≤ 4 * P' := fun x => by
    have h3 : (2 * P) * (M' * 2 ^ E) = (2 * P') * (M * 2 ^ E) := by rw [Nat.mul_assoc, h2, Nat.mul_assoc]
    have a := lt_cross (x := x) hB hB' h3
    have b := eq_cross (x := x) hB hB' h3
    have e1 : 2 * (2 * P) = 4 * P := by omega
    have e2 : 2 * (2 * P') = 4 * P' := by omega
    rw [e1, e2] at a b
    omega
  unfold inI
  have q1 : (2 * P = (2 * m + 1) * (M * 2 ^ E)) ↔ (2 * P' = (2 * m + 1) * (M' * 2 ^ E)) := by rw [eq_comm, Q, eq_comm]
  rw [G, q1, L, Q, F]
section ShM
variable {sz X C M E m : Nat}
/-- between one that reads back and the exact one -/
theorem sh_lo {w w1 : Nat} (hm : 0 < m) (hM : 0 < M) (hX : X * C = m * (M * 2 ^ E)) (h1 : w1 ≤ w) (h2 : w ≤ X) (h : inI sz (w1 * C) M E m) : inI sz (w * C) M E m := by
  have hK : 0 < M * 2 ^ E := Nat.mul_pos hM (p2_pos _)
  have a1 : w1 * C ≤ w * C := Nat.mul_le_mul_right _ h1
  have a2 : w * C ≤ m * (M * 2 ^ E) := by rw [← hX]; exact Nat.mul_le_mul_right _ h2
  have e0 : (2 * m + 1) * (M * 2 ^ E) = 2 * (m * (M * 2 ^ E)) + M * 2 ^ E := by rw [Nat.add_mul, Nat.mul_assoc]; omega
  obtain ⟨-, lo⟩ := h
  refine ⟨Or.inl (by omega), ?_⟩
  rcases lo with ⟨l1, l2, l3⟩ | ⟨l1, l2⟩
  · exact Or.inl ⟨l1, l2, by omega⟩
  · refine Or.inr ⟨l1, ?_⟩
    rcases l2 with z | ⟨z, z2⟩
    · exact Or.inl (by omega)
    · rcases Nat.lt_or_ge ((2 * m - 1) * (M * 2 ^ E)) (2 * (w * C)) with y | y
      · exact Or.inl y
      · exact Or.inr ⟨by omega, z2⟩
theorem sh_hi {w w1 : Nat} (hm : 0 < m) (hM : 0 < M) (hX : X * C = m * (M * 2 ^ E)) (h1 : w ≤ w1) (h2 : X ≤ w) (h : inI sz (w1 * C) M E m) : inI sz (w * C) M E m := by
  have hK : 0 < M * 2 ^ E := Nat.mul_pos hM (p2_pos _)
  have a1 : w * C ≤ w1 * C := Nat.mul_le_mul_right _ h1
  have a2 : m * (M * 2 ^ E) ≤ w * C := by rw [← hX]; exact Nat.mul_le_mul_right _ h2
  have e1 : (2 * m - 1) * (M * 2 ^ E) + (M * 2 ^ E) = 2 * (m * (M * 2 ^ E)) := by
    have b1 : (2 * m - 1) * (M * 2 ^ E) + (M * 2 ^ E) = (2 * m - 1 + 1) * (M * 2 ^ E) := by rw [Nat.add_mul, Nat.one_mul]
    have b2 : 2 * m - 1 + 1 = 2 * m := by omega
    rw [b1, b2, Nat.mul_assoc]
  have e4 : (4 * m - 1) * (M * 2 ^ E) ≤ 4 * (m * (M * 2 ^ E)) := by
    have z4 : (4 * m - 1) * (M * 2 ^ E) ≤ 4 * m * (M * 2 ^ E) := Nat.mul_le_mul_right _ (by omega)
    rw [Nat.mul_assoc] at z4; exact z4
  obtain ⟨hi, -⟩ := h
  refine ⟨?_, ?_⟩
  · rcases hi with z | ⟨z, z2⟩
    · exact Or.inl (by omega)
    · rcases Nat.lt_or_ge (2 * (w * C)) ((2 * m + 1) * (M * 2 ^ E)) with y | y
      · exact Or.inl y
      · exact Or.inr ⟨by omega, z2⟩
  · by_cases c : m = 2 ^ (sz - 1) ∧ 0 < E
    · exact Or.inl ⟨c.1, c.2, by omega⟩
    · exact Or.inr ⟨c, Or.inl (by omega)⟩
/-- near enough below, near enough above -/
theorem sh_nb {r : Nat} (hm : 0 < m) (hM : 0 < M) (hC : 0 < C) (hX : X * C = m * (M * 2 ^ E)) (hr : r ≤ X) (h1 : 2 * r * m < X) (h2 : m = 2 ^ (sz - 1) → 4 * r * m ≤ X) : inI sz ((X - r) * C) M E m := by
  have hK : 0 < M * 2 ^ E := Nat.mul_pos hM (p2_pos _)
  have d1 : (X - r) * C + r * C = m * (M * 2 ^ E) := by rw [← Nat.add_mul, Nat.sub_add_cancel hr, hX]
  have e0 : (2 * m + 1) * (M * 2 ^ E) = 2 * (m * (M * 2 ^ E)) + M * 2 ^ E := by rw [Nat.add_mul, Nat.mul_assoc]; omega
  have e1 : (2 * m - 1) * (M * 2 ^ E) + (M * 2 ^ E) = 2 * (m * (M * 2 ^ E)) := by
    have b1 : (2 * m - 1) * (M * 2 ^ E) + (M * 2 ^ E) = (2 * m - 1 + 1) * (M * 2 ^ E) := by rw [Nat.add_mul, Nat.one_mul]
    have b2 : 2 * m - 1 + 1 = 2 * m := by omega
    rw [b1, b2, Nat.mul_assoc]
  have e4 : (4 * m - 1) * (M * 2 ^ E) + (M * 2 ^ E) = 4 * (m * (M * 2 ^ E)) := by
    have b1 : (4 * m - 1) * (M * 2 ^ E) + (M * 2 ^ E) = (4 * m - 1 + 1) * (M * 2 ^ E) := by rw [Nat.add_mul, Nat.one_mul]
    have b2 : 4 * m - 1 + 1 = 4 * m := by omega
    rw [b1, b2, Nat.mul_assoc]
  have k1 : 2 * (r * C) < M * 2 ^ E := by
    have : 2 * r * m * C < X * C := Nat.mul_lt_mul_of_pos_right h1 hC
    rw [hX] at this
    have e : 2 * r * m * C = m * (2 * (r * C)) := by ac_rfl
    rw [e] at this
    exact Nat.lt_of_mul_lt_mul_left this
  refine ⟨Or.inl (by omega), ?_⟩
  by_cases c : m = 2 ^ (sz - 1) ∧ 0 < E
  · refine Or.inl ⟨c.1, c.2, ?_⟩
    have k2 : 4 * (r * C) ≤ M * 2 ^ E := by
      have : 4 * r * m * C ≤ X * C := Nat.mul_le_mul_right _ (h2 c.1)
      rw [hX] at this
      have e : 4 * r * m * C = m * (4 * (r * C)) := by ac_rfl
      rw [e] at this
      exact Nat.le_of_mul_le_mul_left this hm
    omega
  · exact Or.inr ⟨c, Or.inl (by omega)⟩
theorem sh_na {r : Nat} (hm : 0 < m) (hM : 0 < M) (hC : 0 < C) (hX : X * C = m * (M * 2 ^ E)) (h1 : 2 * r * m < X) : inI sz ((X + r) * C) M E m := by
  have hK : 0 < M * 2 ^ E := Nat.mul_pos hM (p2_pos _)
  have d1 : (X + r) * C = m * (M * 2 ^ E) + r * C := by rw [Nat.add_mul, hX]
  have e0 : (2 * m + 1) * (M * 2 ^ E) = 2 * (m * (M * 2 ^ E)) + M * 2 ^ E := by rw [Nat.add_mul, Nat.mul_assoc]; omega
  have k1 : 2 * (r * C) < M * 2 ^ E := by
    have : 2 * r * m * C < X * C := Nat.mul_lt_mul_of_pos_right h1 hC
    rw [hX] at this
    have e : 2 * r * m * C = m * (2 * (r * C)) := by ac_rfl
    rw [e] at this
    exact Nat.lt_of_mul_lt_mul_left this
  refine (sh_hi (w1 := X + r) hm hM hX (Nat.le_refl _) (by omega) ⟨Or.inl (by omega), ?_⟩)
  have e1 : (2 * m - 1) * (M * 2 ^ E) + (M * 2 ^ E) = 2 * (m * (M * 2 ^ E)) := by
    have b1 : (2 * m - 1) * (M * 2 ^ E) + (M * 2 ^ E) = (2 * m - 1 + 1) * (M * 2 ^ E) := by rw [Nat.add_mul, Nat.one_mul]
    have b2 : 2 * m - 1 + 1 = 2 * m := by omega
    rw [b1, b2, Nat.mul_assoc]
  have e4 : (4 * m - 1) * (M * 2 ^ E) ≤ 4 * (m * (M * 2 ^ E)) := by
    have z4 : (4 * m - 1) * (M * 2 ^ E) ≤ 4 * m * (M * 2 ^ E) := Nat.mul_le_mul_right _ (by omega)
    rw [Nat.mul_assoc] at z4; exact z4
  by_cases c : m = 2 ^ (sz - 1) ∧ 0 < E
  · exact Or.inl ⟨c.1, c.2, by omega⟩
  · exact Or.inr ⟨c, Or.inl (by omega)⟩
end ShM
/-- what a finite double or float is: (E, m), and that X times 10 to (pt - dl X) is just it -/
def EXA (X : Nat) (pt : Int) (kf E m : Nat) : Prop := 0 < X ∧ 0 < m ∧ m < 2 ^ (fbz kf + 1) ∧ (0 < E → 2 ^ fbz kf ≤ m) ∧ E * 2 ^ fbz kf + m < ifz kf ∧ nP X (pt - ((dl X : Nat) : Int)) kf = m * (nM (pt - ((dl X : Nat) : Int)) * 2 ^ E)
/-- n digits, counted in the last place of X -/
theorem RB_w {X v n kf E m : Nat} {pt : Int} (hkf : kf < 2) (hx : EXA X pt kf E m) (hn : n ≤ dl X) : RB v (pt - (n : Int)) kf (E * 2 ^ fbz kf + m) ↔ inI (fbz kf + 1) (v * 10 ^ (dl X - n) * nC (pt - ((dl X : Nat) : Int)) kf) (nM (pt - ((dl X : Nat) : Int))) E m := by
  obtain ⟨hX, hm, hm2, hc, hinf, hex⟩ := hx
  rw [RB_iff hkf hm hm2 hc hinf, ← nP_C]
  have e : pt - (n : Int) = pt - ((dl X : Nat) : Int) + ((dl X - n : Nat) : Int) := by omega
  have := nP_sc v (dl X - n) (pt - ((dl X : Nat) : Int)) kf
  rw [← e] at this
  exact inI_sc (nM_pos _) (nM_pos _) this
theorem nb_dn (X n : Nat) : X / 10 ^ (dl X - n) * 10 ^ (dl X - n) ≤ X ∧ X < (X / 10 ^ (dl X - n) + 1) * 10 ^ (dl X - n) := dv_le (p10_pos _) rfl
theorem nb_mono {X n j : Nat} (h : j ≤ n) (hn : n ≤ dl X) : X / 10 ^ (dl X - j) * 10 ^ (dl X - j) ≤ X / 10 ^ (dl X - n) * 10 ^ (dl X - n) ∧ (X / 10 ^ (dl X - n) + 1) * 10 ^ (dl X - n) ≤ (X / 10 ^ (dl X - j) + 1) * 10 ^ (dl X - j) := by
  have e : dl X - j = (dl X - n) + (n - j) := by omega
  have e2 : 10 ^ (dl X - j) = 10 ^ (n - j) * 10 ^ (dl X - n) := by rw [← Nat.pow_add]; congr 1; omega
  obtain ⟨a1, a2⟩ := dv_le (p10_pos (n - j)) (rfl : X / 10 ^ (dl X - n) / 10 ^ (n - j) = X / 10 ^ (dl X - n) / 10 ^ (n - j))
  have e3 : X / 10 ^ (dl X - j) = X / 10 ^ (dl X - n) / 10 ^ (n - j) := by rw [e, Nat.pow_add, Nat.div_div_eq_div_mul]
  rw [e3, e2, ← Nat.mul_assoc, ← Nat.mul_assoc]
  exact ⟨Nat.mul_le_mul_right _ a1, Nat.mul_le_mul_right _ a2⟩
theorem NB_mono {X n j kf E m : Nat} {pt : Int} (hkf : kf < 2) (hx : EXA X pt kf E m) (hj : j ≤ n) (hn : n ≤ dl X) (h : NBno X n (pt - (n : Int)) kf (E * 2 ^ fbz kf + m)) : NBno X j (pt - (j : Int)) kf (E * 2 ^ fbz kf + m) := by
  obtain ⟨h1, h2⟩ := h
  rw [RB_w hkf hx hn] at h1 h2
  obtain ⟨b1, b2⟩ := nb_mono hj hn
  obtain ⟨c1, c2⟩ := nb_dn X n
  have hx0 := hx
  obtain ⟨hX, hm, -, -, -, hex⟩ := hx
  rw [nP_C] at hex
  refine ⟨fun z => h1 ?_, fun z => h2 ?_⟩
  · rw [RB_w hkf hx0 (by omega)] at z
    exact sh_lo hm (nM_pos _) hex b1 c1 z
  · rw [RB_w hkf hx0 (by omega)] at z
    exact sh_hi hm (nM_pos _) hex b2 (Nat.le_of_lt c2) z
theorem NB_17 {X kf E m : Nat} {pt : Int} (hkf : kf < 2) (hx : EXA X pt kf E m) (hL : 17 < dl X) : ¬ NBno X 17 (pt - ((17 : Nat) : Int)) kf (E * 2 ^ fbz kf + m) := by
  rintro ⟨h1, h2⟩
  rw [RB_w hkf hx (by omega)] at h1 h2
  obtain ⟨c1, c2⟩ := nb_dn X 17
  have hx0 := hx
  obtain ⟨hX, hm, hm2, -, -, hex⟩ := hx
  rw [nP_C] at hex
  have hz := fz_all kf hkf
  have hm53 : m < 2 ^ 53 := Nat.lt_of_lt_of_le hm2 (Nat.pow_le_pow_right (by decide) (by omega))
  have hm52 : m = 2 ^ (fbz kf + 1 - 1) → m ≤ 2 ^ 52 := fun z => by rw [z]; exact Nat.pow_le_pow_right (by decide) (by omega)
  obtain ⟨u, hu⟩ : ∃ u, u = 10 ^ (dl X - 17) := ⟨_, rfl⟩
  have hX2 : 10 ^ 16 * u ≤ X := by
    have := dl_le hX
    rw [hu, ← Nat.pow_add]
    have e : 16 + (dl X - 17) = dl X - 1 := by omega
    rw [e]; exact this
  have hup : 0 < u := by rw [hu]; exact p10_pos _
  rw [← hu] at h1 h2 c1 c2
  obtain ⟨b, hb⟩ : ∃ b, b = X / u := ⟨_, rfl⟩
  rw [← hb] at h1 h2 c1 c2
  rw [Nat.add_mul, Nat.one_mul] at c2
  rcases Nat.lt_or_ge u (2 * (X - b * u)) with z | z
  · -- above is nearer
    apply h2
    have e : (b + 1) * u = X + ((b + 1) * u - X) := by rw [Nat.add_mul]; omega
    rw [e]
    refine sh_na hm (nM_pos _) (nC_pos _ _) hex ?_
    have e2 : 2 * ((b + 1) * u - X) ≤ u := by rw [Nat.add_mul, Nat.one_mul]; omega
    have e3 : 2 * ((b + 1) * u - X) * m ≤ u * m := Nat.mul_le_mul_right _ e2
    have e4 : u * m < u * 2 ^ 53 := Nat.mul_lt_mul_of_pos_left hm53 hup
    omega
  · apply h1
    have e : b * u = X - (X - b * u) := by omega
    rw [e]
    refine sh_nb hm (nM_pos _) (nC_pos _ _) hex (by omega) ?_ ?_
    · have e3 : 2 * (X - b * u) * m ≤ u * m := Nat.mul_le_mul_right _ z
      have e4 : u * m < u * 2 ^ 53 := Nat.mul_lt_mul_of_pos_left hm53 hup
      omega
    · intro y
      have e3 : 4 * (X - b * u) * m ≤ 2 * u * m := Nat.mul_le_mul_right _ (by omega)
      have e4 : 2 * u * m ≤ 2 * u * 2 ^ 52 := Nat.mul_le_mul_left _ (hm52 y)
      omega
end
section
set_option maxHeartbeats 4000000 in
set_option maxRecDepth 100000 in
theorem c_Ed_finiteSize (l : Launch) (D : va_G) (cB cI cJ : ClassId) (t5 : Nat) (ad : Nat → Nat) (kf b : Nat) (hkf : kf < 2) (hb64 : b < 2 ^ 64) (hfin : b % (mkz kf + 1) < ifz kf) : c_L l m_Ed_finiteSize (Cond.code m_Ed_finiteSize b_Ed_finiteSize 5 (some .long) :: gw) (rm_ 6 90) (eX t5 ad) D ecl (tyS cB cI cJ) [.long (lN b), .ref (ad kf)] [] (fun r u => r = jI ((b % (mkz kf + 1) : Nat) : Int) ∧ u = []) 0 0 := by
  intro sz0
  refine Met.ofW (cc := b_Ed_finiteSize) (maxL := 5) (ret := (some .long)) (by decide) rfl ?_
  intro p e s m args below meth c s₁ B hml hv
  obtain ⟨rfl, hsz, hP, hK, hD0, hE⟩ := hv
  have hx := B.exec
  have hb := B.bytes
  have hr := B.returns
  have hts := atoms_spec (ws := Cond.code m_Ed_finiteSize b_Ed_finiteSize 5 (some .long) :: gw) B.pre
  have hown : s.vm.findClass R_Ed = some m.cls := findClass_of_methodNamed B.named
  have hlocks := B.notSynchronized
  subst hsz
  have hD := hD0.self (sz := s.heap.size)
  generalize hAe : va_A [] s.heap.size = A at hD hE ⊢
  have hA : ∀ q : Nat, s.heap.size ≤ q → A q := fun q h => by rw [← hAe]; exact Or.inr h
  have hS : va_S A s.heap s.heap [] := va_S.rf
  have hl := lv_entry ([.long (lN b), .ref (ad kf)]) (n := 5) (Nat.le_of_ble_eq_true rfl)
  rw [lg_entry_eq]
  generalize (lg_sl ([.long (lN b), .ref (ad kf)]) ++ List.replicate (5 - (lg_sl ([.long (lN b), .ref (ad kf)])).length) Slot.unset).toArray = ls at hl ⊢
  have hl : lv_has ls 5 [(0, .long (lN b)), (2, .ref (ad kf))] := hl
  have hE0 := hE
  obtain ⟨hE1, hE2, hE3, hE4, hE5, hE6, hE7, hE8, hE9, hE10, hE11, hE12⟩ := hE0
  have hfz := fz_all kf hkf
  obtain ⟨y, hy⟩ : ∃ y : Nat, y = b % (mkz kf + 1) := ⟨_, rfl⟩
  have hyl : y ≤ mkz kf := by rw [hy]; exact Nat.le_of_lt_succ (Nat.mod_lt _ (Nat.succ_pos _))
  rw [← hy] at hfin
  refine lv_aload_n hx hb d_Ed_finiteSize_0 rfl (lv_at hl 1 rfl) ?_
  refine lv_lload_n hx hb d_Ed_finiteSize_1 rfl (lv_at hl 0 rfl) ?_
  refine c_fl (wc := []) (wr := []) (va_runV (C := "ExactDigits$Format") (As := [.long (lN b)]) (rest := []) ⟨hx, hb, hml, hown, hts⟩ (c_Fo_withoutSign l D cB cI cJ t5 ad kf b hkf hb64 s.heap.size) (cwV 1 hts (gV tw_166 tw_167 tw_168 tw_10 tw_169) rfl rfl rfl (by decide +kernel) ⟨Nat.le_of_ble_eq_true rfl, Nat.le_of_ble_eq_true rfl⟩) ⟨c_blind (eX_X t5 ad), va_Orecv (hE5 kf hkf) hS, fun U hU hW => c_pre (wc := []) (eX_X t5 ad) hE hK hP hD hS hA [] rfl (by decide) U hU hW⟩ rfl rfl hl.1 rfl (lv_room (Nat.le_of_ble_eq_true rfl)) d_Ed_finiteSize_2 ⟨Nat.le_of_ble_eq_true rfl, Nat.le_of_ble_eq_true rfl⟩) hP hD hS hA [] [] rfl rfl (by decide) (by decide) (fun r u H locs hp hP hD hS => ?_)
  obtain ⟨rfl, rfl⟩ := hp
  have hP : va_P D ecl [] H := hP
  have hD : va_D A [] := hD
  refine ed_tj (y := (y : Int)) (by rw [hy]) ?_
  refine lv_lstore_n hx hb d_Ed_finiteSize_5 rfl hl (by decide) rfl (fun ls hl => ?_)
  have hl : lv_has ls 5 [(3, .long (jI ((y : Int)))), (0, .long (lN b)), (2, .ref (ad kf))] := hl
  refine lv_lload_n hx hb d_Ed_finiteSize_6 rfl (lv_at hl 0 rfl) ?_
  refine lv_aload_n hx hb d_Ed_finiteSize_7 rfl (lv_at hl 2 rfl) ?_
  refine va_getX hx hb hE9 hkf hS hown (hts _ (List.mem_cons_of_mem _ tw_598)) (fun _ h9 => h9) d_Ed_finiteSize_8 ?_
  refine ed_pc (pc' := 11) rfl ?_
  refine ed_lif_lt (tgt := 23) hx hb d_Ed_finiteSize_11 d_Ed_finiteSize_12 rfl (by omega) (by omega) (fun h_1 => ?_) (fun h_1 => ?_)
  · skip
    refine ed_pc (pc' := 23) rfl ?_
    refine lv_lload_n hx hb d_Ed_finiteSize_23 rfl (lv_at hl 0 rfl) ?_
    exact W.lret (v := (jI ((y : Int)))) hx hb hr (fun t9 ht9 hW9 => ⟨⟨(jI ((y : Int))), [], rfl, ⟨by rw [hy], rfl⟩, by rw [ht9]; exact hP, hD⟩, hS.F ht9⟩) hS.2.2 d_Ed_finiteSize_24
  · exact absurd h_1 (by omega)
set_option maxHeartbeats 4000000 in
set_option maxRecDepth 100000 in
theorem c_Ed_finiteSize_no (l : Launch) (hl0 : l.stackTraces = false) (D : va_G) (cB cI cJ : ClassId) (t5 : Nat) (ad : Nat → Nat) (kf b : Nat) (hkf : kf < 2) (hb64 : b < 2 ^ 64) (hfin : ifz kf ≤ b % (mkz kf + 1)) : c_TL l m_Ed_finiteSize (Cond.code m_Ed_finiteSize b_Ed_finiteSize 5 (some .long) :: gw) (rmx_ 6 90) (eX t5 ad) D ecl (tyS cB cI cJ) [.long (lN b), .ref (ad kf)] [] xAE := by
  intro sz0
  refine vx_ofW (cc := b_Ed_finiteSize) (maxL := 5) (ret := (some .long)) (by decide) rfl ?_
  intro p e s m args below meth c s₁ B hml htab hv
  obtain ⟨rfl, hsz, hP, hK, hD0, hE⟩ := hv
  have hx := B.exec
  have hb := B.bytes
  have hr := B.returns
  have hts := atoms_spec (ws := Cond.code m_Ed_finiteSize b_Ed_finiteSize 5 (some .long) :: gw) B.pre
  have hown : s.vm.findClass R_Ed = some m.cls := findClass_of_methodNamed B.named
  have hlocks := B.notSynchronized
  subst hsz
  have hD := hD0.self (sz := s.heap.size)
  generalize hAe : va_A [] s.heap.size = A at hD hE ⊢
  have hA : ∀ q : Nat, s.heap.size ≤ q → A q := fun q h => by rw [← hAe]; exact Or.inr h
  have hS : va_S A s.heap s.heap [] := va_S.rf
  have hl := lv_entry ([.long (lN b), .ref (ad kf)]) (n := 5) (Nat.le_of_ble_eq_true rfl)
  rw [lg_entry_eq]
  generalize (lg_sl ([.long (lN b), .ref (ad kf)]) ++ List.replicate (5 - (lg_sl ([.long (lN b), .ref (ad kf)])).length) Slot.unset).toArray = ls at hl ⊢
  have hl : lv_has ls 5 [(0, .long (lN b)), (2, .ref (ad kf))] := hl
  have hE0 := hE
  obtain ⟨hE1, hE2, hE3, hE4, hE5, hE6, hE7, hE8, hE9, hE10, hE11, hE12⟩ := hE0
  have hfz := fz_all kf hkf
  obtain ⟨y, hy⟩ : ∃ y : Nat, y = b % (mkz kf + 1) := ⟨_, rfl⟩
  have hyl : y ≤ mkz kf := by rw [hy]; exact Nat.le_of_lt_succ (Nat.mod_lt _ (Nat.succ_pos _))
  rw [← hy] at hfin
  refine lv_aload_n hx hb d_Ed_finiteSize_0 rfl (lv_at hl 1 rfl) ?_
  refine lv_lload_n hx hb d_Ed_finiteSize_1 rfl (lv_at hl 0 rfl) ?_
  refine c_fl (wc := []) (wr := []) (va_runV (C := "ExactDigits$Format") (As := [.long (lN b)]) (rest := []) ⟨hx, hb, hml, hown, hts⟩ (c_Fo_withoutSign l D cB cI cJ t5 ad kf b hkf hb64 s.heap.size) (cwV 1 hts (gV tw_166 tw_167 tw_168 tw_10 tw_169) rfl rfl rfl (by decide +kernel) ⟨Nat.le_of_ble_eq_true rfl, Nat.le_of_ble_eq_true rfl⟩) ⟨c_blind (eX_X t5 ad), va_Orecv (hE5 kf hkf) hS, fun U hU hW => c_pre (wc := []) (eX_X t5 ad) hE hK hP hD hS hA [] rfl (by decide) U hU hW⟩ rfl rfl hl.1 rfl (lv_room (Nat.le_of_ble_eq_true rfl)) d_Ed_finiteSize_2 ⟨Nat.le_of_ble_eq_true rfl, Nat.le_of_ble_eq_true rfl⟩) hP hD hS hA [] [] rfl rfl (by decide) (by decide) (fun r u H locs hp hP hD hS => ?_)
  obtain ⟨rfl, rfl⟩ := hp
  have hP : va_P D ecl [] H := hP
  have hD : va_D A [] := hD
  refine ed_tj (y := (y : Int)) (by rw [hy]) ?_
  refine lv_lstore_n hx hb d_Ed_finiteSize_5 rfl hl (by decide) rfl (fun ls hl => ?_)
  have hl : lv_has ls 5 [(3, .long (jI ((y : Int)))), (0, .long (lN b)), (2, .ref (ad kf))] := hl
  refine lv_lload_n hx hb d_Ed_finiteSize_6 rfl (lv_at hl 0 rfl) ?_
  refine lv_aload_n hx hb d_Ed_finiteSize_7 rfl (lv_at hl 2 rfl) ?_
  refine va_getX hx hb hE9 hkf hS hown (hts _ (List.mem_cons_of_mem _ tw_598)) (fun _ h9 => h9) d_Ed_finiteSize_8 ?_
  refine ed_pc (pc' := 11) rfl ?_
  refine ed_lif_lt (tgt := 23) hx hb d_Ed_finiteSize_11 d_Ed_finiteSize_12 rfl (by omega) (by omega) (fun h_1 => ?_) (fun h_1 => ?_)
  · exact absurd h_1 (by omega)
  · skip
    refine ed_pc (pc' := 15) rfl ?_
    exact vx_throw0 (own := "ExactDigits") (cls := xAE) (names := xNm) (rest := []) hx hb hl0 hown (by decide +kernel) (by decide +kernel) (hts _ (List.mem_cons_of_mem _ tw_170)) (hts _ (List.mem_cons_of_mem _ tw_14)) (vx_hat (fun w h => hts w (List.mem_cons_of_mem _ (ta_AE w h))) tb_AE (eW_AE hE.2.2.2.2.2.2.2.2.2.2.2)) tg_AE hE.2.2.2.2.2.2.2.2.2.1 hE.2.2.2.2.2.2.2.2.2.2.1 hS (hl.1.trans hml.symm) d_Ed_finiteSize_15 d_Ed_finiteSize_18 d_Ed_finiteSize_19 d_Ed_finiteSize_22 (fun x h => (htab x h).elim) (Nat.le_of_ble_eq_true rfl) (Nat.le_of_ble_eq_true rfl) (Nat.le_of_ble_eq_true rfl) (Nat.le_of_ble_eq_true rfl) hlocks (fun t9 hv9 hz9 hk9 => c_xc hP hD hS hz9 hk9) hS.2.2 (Nat.le_of_ble_eq_true rfl) (Nat.le_of_ble_eq_true rfl)
end
section
set_option maxHeartbeats 4000000 in
set_option maxRecDepth 100000 in
theorem c_Ed_shorten (l : Launch) (D : va_G) (cB cI cJ : ClassId) (t5 : Nat) (ad : Nat → Nat) (x dg q pa : Nat) (g f : Nat → Int32) (zs pt zl : Int) (X kf s0 E m0 : Nat) (hkf : kf < 2) (hnm : nm_ok g X) (hs0 : s0 = E * 2 ^ fbz kf + m0) (hxx : X = 0 ∨ EXA X pt kf E m0) (hpt : -1000000 ≤ pt ∧ pt ≤ 1000000) : c_V l m_Ed_shorten (Cond.code m_Ed_shorten b_Ed_shorten 8 none :: gw) (rm_ 5 140) (eX t5 ad) D ecl (tyS cB cI cJ) [.ref x, .long (jI ((s0 : Int))), .ref (ad kf)] [(x, .inr (1, [.ref dg, .int (iI (((dl X : Nat) : Int))), .int (iI (pt)), .int (iI (zl)), .ref q])), (dg, .inl (cB, 1200, .inl g)), (q, .inr (0, [.ref pa, .int (iI (zs))])), (pa, .inl (cI, 306, .inl f))] (fun u => ∃ (f' : Nat → Int32) (zs' : Int), (∃ (n v : Nat) (g' : Nat → Int32), 2 ≤ n ∧ n < dl X ∧ (∀ j, 2 ≤ j → j < n → NBno X j (pt - (j : Int)) kf s0) ∧ NBR X n (pt - (n : Int)) kf s0 v ∧ nm_ok g' (gvD v) ∧ u = [(x, .inr (1, [.ref dg, .int (iI (((dl (gvD v) : Nat) : Int))), .int (iI (if v = 0 then 0 else ((dl v : Nat) : Int) + (pt - (n : Int)))), .int (iI (hdb v (((dl v : Nat) : Int) - 1200))), .ref q])), (dg, .inl (cB, 1200, .inl g')), (q, .inr (0, [.ref pa, .int (iI (zs'))])), (pa, .inl (cI, 306, .inl f'))]) ∨ ((∀ j, 2 ≤ j → j < dl X → NBno X j (pt - (j : Int)) kf s0) ∧ u = [(x, .inr (1, [.ref dg, .int (iI (((dl X : Nat) : Int))), .int (iI (pt)), .int (iI (zl)), .ref q])), (dg, .inl (cB, 1200, .inl g)), (q, .inr (0, [.ref pa, .int (iI (zs'))])), (pa, .inl (cI, 306, .inl f'))])) 0 0 := by
  intro sz0
  refine Met.ofW (cc := b_Ed_shorten) (maxL := 8) (ret := none) (by decide) rfl ?_
  intro p e s m args below meth c s₁ B hml hv
  obtain ⟨rfl, hsz, hP, hK, hD0, hE⟩ := hv
  have hx := B.exec
  have hb := B.bytes
  have hr := B.returns
  have hts := atoms_spec (ws := Cond.code m_Ed_shorten b_Ed_shorten 8 none :: gw) B.pre
  have hown : s.vm.findClass R_Ed = some m.cls := findClass_of_methodNamed B.named
  have hlocks := B.notSynchronized
  subst hsz
  have hD := hD0.self (sz := s.heap.size)
  generalize hAe : va_A [(x, .inr (1, [.ref dg, .int (iI (((dl X : Nat) : Int))), .int (iI (pt)), .int (iI (zl)), .ref q])), (dg, .inl (cB, 1200, .inl g)), (q, .inr (0, [.ref pa, .int (iI (zs))])), (pa, .inl (cI, 306, .inl f))] s.heap.size = A at hD hE ⊢
  have hA : ∀ q : Nat, s.heap.size ≤ q → A q := fun q h => by rw [← hAe]; exact Or.inr h
  have hS : va_S A s.heap s.heap [] := va_S.rf
  have hl := lv_entry ([.ref x, .long (jI ((s0 : Int))), .ref (ad kf)]) (n := 8) (Nat.le_of_ble_eq_true rfl)
  rw [lg_entry_eq]
  generalize (lg_sl ([.ref x, .long (jI ((s0 : Int))), .ref (ad kf)]) ++ List.replicate (8 - (lg_sl ([.ref x, .long (jI ((s0 : Int))), .ref (ad kf)])).length) Slot.unset).toArray = ls at hl ⊢
  have hl : lv_has ls 8 [(0, .ref x), (1, .long (jI ((s0 : Int)))), (3, .ref (ad kf))] := hl
  have hX12 := hnm.1
  have hfz := fz_all kf hkf
  have hXL : 0 < dl X → EXA X pt kf E m0 := fun z => by rcases hxx with y | y; rw [y, dl_0] at z; omega; exact y
  have hs63 : 0 < dl X → s0 < ifz kf := fun z => by rw [hs0]; exact (hXL z).2.2.2.2.1
  have L14 : ∀ (n9 : Nat) (a : Nat) (b : Nat) (h : Nat → Int32) (za : Int) (zb : Int) (zh : Int) (ls : Array Slot) (H : Heap) (locs : List Loc), b - a = n9 → (za = (a : Int)) → (zb = (b : Int)) → (2 ≤ a) → (b ≤ dl X) → (b ≤ 17) → (∀ j, 2 ≤ j → j < a → j < dl X → NBno X j (pt - (j : Int)) kf s0) → (b < dl X → b < 17 → 2 ≤ b ∧ ¬ NBno X b (pt - (b : Int)) kf s0) → (b < a → a = 2 ∨ a = b + 1) → lv_has ls 8 [(0, .ref x), (1, .long (jI ((s0 : Int)))), (3, .ref (ad kf)), (4, .int (iI (za))), (5, .int (iI (zb)))] → va_P D ecl [(x, .inr (1, [.ref dg, .int (iI (((dl X : Nat) : Int))), .int (iI (pt)), .int (iI (zl)), .ref q])), (dg, .inl (cB, 1200, .inl g)), (q, .inr (0, [.ref pa, .int (iI (zh))])), (pa, .inl (cI, 306, .inl h))] H → va_D A [(x, .inr (1, [.ref dg, .int (iI (((dl X : Nat) : Int))), .int (iI (pt)), .int (iI (zl)), .ref q])), (dg, .inl (cB, 1200, .inl g)), (q, .inr (0, [.ref pa, .int (iI (zh))])), (pa, .inl (cI, 306, .inl h))] → va_S A s.heap H locs → W p l e (headSpec (Cond.code m_Ed_shorten b_Ed_shorten 8 none :: gw) (rm_ 5 140)).room s m ([.ref x, .long (jI ((s0 : Int))), .ref (ad kf)] : List Value).toArray below meth c H locs 0 0 (MQ below (va_Qv (fun u => ∃ (f' : Nat → Int32) (zs' : Int), (∃ (n v : Nat) (g' : Nat → Int32), 2 ≤ n ∧ n < dl X ∧ (∀ j, 2 ≤ j → j < n → NBno X j (pt - (j : Int)) kf s0) ∧ NBR X n (pt - (n : Int)) kf s0 v ∧ nm_ok g' (gvD v) ∧ u = [(x, .inr (1, [.ref dg, .int (iI (((dl (gvD v) : Nat) : Int))), .int (iI (if v = 0 then 0 else ((dl v : Nat) : Int) + (pt - (n : Int)))), .int (iI (hdb v (((dl v : Nat) : Int) - 1200))), .ref q])), (dg, .inl (cB, 1200, .inl g')), (q, .inr (0, [.ref pa, .int (iI (zs'))])), (pa, .inl (cI, 306, .inl f'))]) ∨ ((∀ j, 2 ≤ j → j < dl X → NBno X j (pt - (j : Int)) kf s0) ∧ u = [(x, .inr (1, [.ref dg, .int (iI (((dl X : Nat) : Int))), .int (iI (pt)), .int (iI (zl)), .ref q])), (dg, .inl (cB, 1200, .inl g)), (q, .inr (0, [.ref pa, .int (iI (zs'))])), (pa, .inl (cI, 306, .inl f'))])) (c_B D ecl A) A) ([.ref x, .long (jI ((s0 : Int))), .ref (ad kf)] : List Value).toArray s 0 0 A) (F0 m 14 ls []) := by
    intro n9
    induction n9 using Nat.strongRecOn with
    | ind n9 ih =>
    intro a b h za zb zh ls H locs hn9 hza hzb ha2 hbL hb17 hno hyes hab hl hP hD hS
    refine lv_iload hx hb d_Ed_shorten_14 (lv_at hl 3 rfl) ?_
    refine lv_iload hx hb d_Ed_shorten_16 (lv_at hl 4 rfl) ?_
    refine ed_icmp_ge (tgt := 61) hx hb d_Ed_shorten_18 rfl (by omega) (by omega) (fun h_1 => ?_) (fun h_1 => ?_)
    · skip
      refine ed_pc (pc' := 61) rfl ?_
      refine lv_iload hx hb d_Ed_shorten_61 (lv_at hl 4 rfl) ?_
      refine lv_aload_n hx hb d_Ed_shorten_63 rfl (lv_at hl 0 rfl) ?_
      refine va_get (D := D) (ci := 1) (v := .int (iI (((dl X : Nat) : Int)))) (C := R_Ed) (T := T_Ed) (N := 5) hx hb hts (fun w h => List.mem_cons_of_mem _ (in_Ed w h)) hown hK hP 0 rfl rfl 1 (by decide) (hts _ (List.mem_cons_of_mem _ tw_41)) (fun _ h9 => h9) rfl d_Ed_shorten_64 ?_
      refine ed_icmp_ge (tgt := 81) hx hb d_Ed_shorten_67 rfl (by omega) (by omega) (fun h_2 => ?_) (fun h_2 => ?_)
      · skip
        refine ed_pc (pc' := 81) rfl ?_
        refine ed_pc (pc' := 81) rfl ?_
        refine lv_ldc2 (v := (-1)) hx hb hown (hts _ (List.mem_cons_of_mem _ tw_272)) d_Ed_shorten_81 ?_
        refine ed_tl (y := (jI (-1))) (by decide +kernel) ?_
        refine lv_lstore hx hb d_Ed_shorten_84 hl (by decide) rfl (fun ls hl => ?_)
        have hl : lv_has ls 8 [(6, .long (jI (-1))), (0, .ref x), (1, .long (jI ((s0 : Int)))), (3, .ref (ad kf)), (4, .int (iI (za))), (5, .int (iI (zb)))] := hl
        refine lv_lload hx hb d_Ed_shorten_86 (lv_at hl 0 rfl) ?_
        refine lv_ldc2 (v := (-1)) hx hb hown (hts _ (List.mem_cons_of_mem _ tw_272)) d_Ed_shorten_88 ?_
        refine ed_tl (y := (jI (-1))) (by decide +kernel) ?_
        refine ed_lif_eq (tgt := 115) hx hb d_Ed_shorten_91 d_Ed_shorten_92 rfl (by omega) (by omega) (fun h_3 => ?_) (fun h_3 => ?_)
        · skip
          refine ed_pc (pc' := 115) rfl ?_
          exact W.vret hx hb hr (fun t9 ht9 hW9 => ⟨⟨[(x, .inr (1, [.ref dg, .int (iI (((dl X : Nat) : Int))), .int (iI (pt)), .int (iI (zl)), .ref q])), (dg, .inl (cB, 1200, .inl g)), (q, .inr (0, [.ref pa, .int (iI (zh))])), (pa, .inl (cI, 306, .inl h))], rfl, ⟨h, zh, Or.inr ⟨fun j h1 h2 => hno j h1 (by omega) h2, rfl⟩⟩, by rw [ht9]; exact hP, hD⟩, hS.F ht9⟩) hS.2.2 d_Ed_shorten_115
        · exact absurd h_3 (by omega)
      · skip
        refine ed_pc (pc' := 70) rfl ?_
        refine ed_pc (pc' := 70) rfl ?_
        refine lv_aload_n hx hb d_Ed_shorten_70 rfl (lv_at hl 0 rfl) ?_
        refine lv_iload hx hb d_Ed_shorten_71 (lv_at hl 4 rfl) ?_
        refine ed_tz (y := (b : Int)) (hzb) ?_
        refine lv_lload_n hx hb d_Ed_shorten_73 rfl (lv_at hl 1 rfl) ?_
        refine lv_aload_n hx hb d_Ed_shorten_74 rfl (lv_at hl 2 rfl) ?_
        have hb2 : 2 ≤ b ∧ ¬ NBno X b (pt - (b : Int)) kf s0 := by
          rcases Nat.lt_or_ge b 17 with z | z
          · exact hyes (by omega) z
          · have hb17e : b = 17 := by omega
            subst hb17e
            exact ⟨by omega, by rw [hs0]; exact NB_17 hkf (hXL (by omega)) (by omega)⟩
        refine c_fl (wc := [(x, .inr (1, [.ref dg, .int (iI (((dl X : Nat) : Int))), .int (iI (pt)), .int (iI (zl)), .ref q])), (dg, .inl (cB, 1200, .inl g)), (q, .inr (0, [.ref pa, .int (iI (zh))])), (pa, .inl (cI, 306, .inl h))]) (wr := []) (va_runV (C := "ExactDigits") (As := [.int (iI ((b : Int))), .long (jI ((s0 : Int))), .ref (ad kf)]) (rest := []) ⟨hx, hb, hml, hown, hts⟩ (c_Ed_neighbourReadBack l D cB cI cJ t5 ad x dg q pa g h zh pt zl X b kf s0 hkf hnm (by omega) (by omega) (by have := hs63 (by omega); omega) hpt H.size) (cwV 3 hts (gV tw_255 tw_257 ts_8 tw_1 tw_258) rfl rfl rfl (by decide +kernel) ⟨Nat.le_of_ble_eq_true rfl, Nat.le_of_ble_eq_true rfl⟩) ⟨c_blind (eX_X t5 ad), va_recv (ci := 1) (q0 := 0) hK hP rfl rfl, fun U hU hW => c_pre (wc := [(x, .inr (1, [.ref dg, .int (iI (((dl X : Nat) : Int))), .int (iI (pt)), .int (iI (zl)), .ref q])), (dg, .inl (cB, 1200, .inl g)), (q, .inr (0, [.ref pa, .int (iI (zh))])), (pa, .inl (cI, 306, .inl h))]) (eX_X t5 ad) hE hK hP hD hS hA [0, 1, 2, 3] rfl (by decide) U hU hW⟩ rfl rfl hl.1 rfl (lv_room (Nat.le_of_ble_eq_true rfl)) d_Ed_shorten_75 ⟨Nat.le_of_ble_eq_true rfl, Nat.le_of_ble_eq_true rfl⟩) hP hD hS hA [0, 1, 2, 3] [] rfl rfl (by decide) (by decide) (fun r u H locs hp hP hD hS => ?_)
        obtain ⟨hnb, f4, zs4, rfl⟩ := hp
        have hP : va_P D ecl [(x, .inr (1, [.ref dg, .int (iI (((dl X : Nat) : Int))), .int (iI (pt)), .int (iI (zl)), .ref q])), (dg, .inl (cB, 1200, .inl g)), (q, .inr (0, [.ref pa, .int (iI (zs4))])), (pa, .inl (cI, 306, .inl f4))] H := hP
        have hD : va_D A [(x, .inr (1, [.ref dg, .int (iI (((dl X : Nat) : Int))), .int (iI (pt)), .int (iI (zl)), .ref q])), (dg, .inl (cB, 1200, .inl g)), (q, .inr (0, [.ref pa, .int (iI (zs4))])), (pa, .inl (cI, 306, .inl f4))] := hD
        rcases hnb with ⟨v, rfl, hv⟩ | ⟨rfl, hnn⟩
        · skip
          have hvl : v < 9223372036854775807 := by have := nb_18 (X := X) (n := b) (by omega) (by omega); unfold NBR at hv; rcases hv with ⟨_, ⟨_, y1⟩ | ⟨_, _, y1⟩⟩ | ⟨_, ⟨_, y1⟩ | ⟨_, _, y1⟩⟩ <;> omega
          refine ed_pc (pc' := 78) rfl ?_
          refine lv_goto (tgt := 84) hx hb d_Ed_shorten_78 rfl ?_
          refine lv_lstore hx hb d_Ed_shorten_84 hl (by decide) rfl (fun ls hl => ?_)
          have hl : lv_has ls 8 [(6, .long (jI ((v : Int)))), (0, .ref x), (1, .long (jI ((s0 : Int)))), (3, .ref (ad kf)), (4, .int (iI (za))), (5, .int (iI (zb)))] := hl
          refine lv_lload hx hb d_Ed_shorten_86 (lv_at hl 0 rfl) ?_
          refine lv_ldc2 (v := (-1)) hx hb hown (hts _ (List.mem_cons_of_mem _ tw_272)) d_Ed_shorten_88 ?_
          refine ed_tl (y := (jI (-1))) (by decide +kernel) ?_
          refine ed_lif_eq (tgt := 115) hx hb d_Ed_shorten_91 d_Ed_shorten_92 rfl (by omega) (by omega) (fun h_4 => ?_) (fun h_4 => ?_)
          · exact absurd h_4 (by omega)
          · skip
            refine ed_pc (pc' := 95) rfl ?_
            refine lv_aload_n hx hb d_Ed_shorten_95 rfl (lv_at hl 1 rfl) ?_
            refine va_get (D := D) (ci := 1) (v := .ref q) (C := R_Ed) (T := T_Ed) (N := 5) hx hb hts (fun w h => List.mem_cons_of_mem _ (in_Ed w h)) hown hK hP 0 rfl rfl 4 (by decide) (hts _ (List.mem_cons_of_mem _ tw_44)) (fun _ h9 => h9) rfl d_Ed_shorten_96 ?_
            refine lv_lload hx hb d_Ed_shorten_99 (lv_at hl 0 rfl) ?_
            refine ed_tl (y := (lN v)) (jI_nat v) ?_
            refine ed_pc (pc' := 101) rfl ?_
            refine c_fv (wc := [(q, .inr (0, [.ref pa, .int (iI (zs4))])), (pa, .inl (cI, 306, .inl f4))]) (wr := [(x, .inr (1, [.ref dg, .int (iI (((dl X : Nat) : Int))), .int (iI (pt)), .int (iI (zl)), .ref q])), (dg, .inl (cB, 1200, .inl g))]) (va_runV (C := "ExactDigits$Natural") (As := [.long (lN v)]) (rest := []) ⟨hx, hb, hml, hown, hts⟩ (c_Na_setUnsigned l D cB cI cJ t5 ad q pa f4 zs4 v (by omega) H.size) (cwV 1 hts (gV tw_60 tw_61 tw_62 tw_2 tw_63) rfl rfl rfl (by decide +kernel) ⟨Nat.le_of_ble_eq_true rfl, Nat.le_of_ble_eq_true rfl⟩) ⟨c_blind (eX_X t5 ad), va_recv (ci := 0) (q0 := 2) hK hP rfl rfl, fun U hU hW => c_pre (wc := [(q, .inr (0, [.ref pa, .int (iI (zs4))])), (pa, .inl (cI, 306, .inl f4))]) (eX_X t5 ad) hE hK hP hD hS hA [2, 3] rfl (by decide) U hU hW⟩ rfl rfl hl.1 rfl (lv_room (Nat.le_of_ble_eq_true rfl)) d_Ed_shorten_101 ⟨Nat.le_of_ble_eq_true rfl, Nat.le_of_ble_eq_true rfl⟩) hP hD hS hA [2, 3] [0, 1] rfl rfl (by decide) (by decide) (fun u H locs hp hP hD hS => ?_)
            obtain ⟨f5, sz5, rfl, hok⟩ := hp
            have hP : va_P D ecl [(x, .inr (1, [.ref dg, .int (iI (((dl X : Nat) : Int))), .int (iI (pt)), .int (iI (zl)), .ref q])), (dg, .inl (cB, 1200, .inl g)), (q, .inr (0, [.ref pa, .int (iI ((sz5 : Int)))])), (pa, .inl (cI, 306, .inl f5))] H := hP
            have hD : va_D A [(x, .inr (1, [.ref dg, .int (iI (((dl X : Nat) : Int))), .int (iI (pt)), .int (iI (zl)), .ref q])), (dg, .inl (cB, 1200, .inl g)), (q, .inr (0, [.ref pa, .int (iI ((sz5 : Int)))])), (pa, .inl (cI, 306, .inl f5))] := hD
            refine lv_aload_n hx hb d_Ed_shorten_104 rfl (lv_at hl 1 rfl) ?_
            refine lv_aload_n hx hb d_Ed_shorten_105 rfl (lv_at hl 1 rfl) ?_
            refine va_get (D := D) (ci := 1) (v := .int (iI (pt))) (C := R_Ed) (T := T_Ed) (N := 5) hx hb hts (fun w h => List.mem_cons_of_mem _ (in_Ed w h)) hown hK hP 0 rfl rfl 2 (by decide) (hts _ (List.mem_cons_of_mem _ tw_42)) (fun _ h9 => h9) rfl d_Ed_shorten_106 ?_
            refine lv_iload hx hb d_Ed_shorten_109 (lv_at hl 5 rfl) ?_
            refine ed_tz (y := (b : Int)) (hzb) ?_
            refine ed_isub hx hb d_Ed_shorten_111 ?_
            refine c_fv (wc := [(x, .inr (1, [.ref dg, .int (iI (((dl X : Nat) : Int))), .int (iI (pt)), .int (iI (zl)), .ref q])), (dg, .inl (cB, 1200, .inl g)), (q, .inr (0, [.ref pa, .int (iI ((sz5 : Int)))])), (pa, .inl (cI, 306, .inl f5))]) (wr := []) (va_runV (C := "ExactDigits") (As := [.int (iI ((pt) - ((b : Int))))]) (rest := []) ⟨hx, hb, hml, hown, hts⟩ (c_Ed_giveScratch l D cB cI cJ t5 ad x dg q pa g f5 sz5 v ((dl X : Nat) : Int) pt zl (pt - (b : Int)) (by omega) hok H.size) (cwV 1 hts (gV tw_66 tw_68 ts_0 tw_1 tw_69) rfl rfl rfl (by decide +kernel) ⟨Nat.le_of_ble_eq_true rfl, Nat.le_of_ble_eq_true rfl⟩) ⟨c_blind (eX_X t5 ad), va_recv (ci := 1) (q0 := 0) hK hP rfl rfl, fun U hU hW => c_pre (wc := [(x, .inr (1, [.ref dg, .int (iI (((dl X : Nat) : Int))), .int (iI (pt)), .int (iI (zl)), .ref q])), (dg, .inl (cB, 1200, .inl g)), (q, .inr (0, [.ref pa, .int (iI ((sz5 : Int)))])), (pa, .inl (cI, 306, .inl f5))]) (eX_X t5 ad) hE hK hP hD hS hA [0, 1, 2, 3] rfl (by decide) U hU hW⟩ rfl rfl hl.1 rfl (lv_room (Nat.le_of_ble_eq_true rfl)) d_Ed_shorten_112 ⟨Nat.le_of_ble_eq_true rfl, Nat.le_of_ble_eq_true rfl⟩) hP hD hS hA [0, 1, 2, 3] [] rfl rfl (by decide) (by decide) (fun u H locs hp hP hD hS => ?_)
            obtain ⟨g6, hnm6, rfl⟩ := hp
            have hP : va_P D ecl [(x, .inr (1, [.ref dg, .int (iI (((dl (gvD v) : Nat) : Int))), .int (iI (if v = 0 then 0 else ((dl v : Nat) : Int) + (pt - (b : Int)))), .int (iI (hdb v (((dl v : Nat) : Int) - 1200))), .ref q])), (dg, .inl (cB, 1200, .inl g6)), (q, .inr (0, [.ref pa, .int (iI ((sz5 : Int)))])), (pa, .inl (cI, 306, .inl f5))] H := hP
            have hD : va_D A [(x, .inr (1, [.ref dg, .int (iI (((dl (gvD v) : Nat) : Int))), .int (iI (if v = 0 then 0 else ((dl v : Nat) : Int) + (pt - (b : Int)))), .int (iI (hdb v (((dl v : Nat) : Int) - 1200))), .ref q])), (dg, .inl (cB, 1200, .inl g6)), (q, .inr (0, [.ref pa, .int (iI ((sz5 : Int)))])), (pa, .inl (cI, 306, .inl f5))] := hD
            exact W.vret hx hb hr (fun t9 ht9 hW9 => ⟨⟨[(x, .inr (1, [.ref dg, .int (iI (((dl (gvD v) : Nat) : Int))), .int (iI (if v = 0 then 0 else ((dl v : Nat) : Int) + (pt - (b : Int)))), .int (iI (hdb v (((dl v : Nat) : Int) - 1200))), .ref q])), (dg, .inl (cB, 1200, .inl g6)), (q, .inr (0, [.ref pa, .int (iI ((sz5 : Int)))])), (pa, .inl (cI, 306, .inl f5))], rfl, ⟨f5, _, Or.inl ⟨b, v, g6, hb2.1, by omega, fun j h1 h2 => hno j h1 (by omega) (by omega), hv, hnm6, rfl⟩⟩, by rw [ht9]; exact hP, hD⟩, hS.F ht9⟩) hS.2.2 d_Ed_shorten_115
        · exact absurd hnn hb2.2
    · skip
      refine ed_pc (pc' := 21) rfl ?_
      refine lv_iload hx hb d_Ed_shorten_21 (lv_at hl 3 rfl) ?_
      refine lv_iload hx hb d_Ed_shorten_23 (lv_at hl 4 rfl) ?_
      refine ed_iadd hx hb d_Ed_shorten_25 ?_
      refine lv_iconst (v := iI 2) hx hb d_Ed_shorten_26 rfl ?_
      refine ed_pc (pc' := 27) rfl ?_
      refine ed_idiv hx hb d_Ed_shorten_27 (by omega) (by omega) (by omega) ?_
      obtain ⟨n, hn⟩ : ∃ n : Nat, n = (a + b) / 2 := ⟨_, rfl⟩
      refine ed_tz (y := (n : Int)) (by omega) ?_
      refine lv_istore hx hb d_Ed_shorten_28 hl (by decide) rfl (fun ls hl => ?_)
      have hl : lv_has ls 8 [(6, .int (iI ((n : Int)))), (0, .ref x), (1, .long (jI ((s0 : Int)))), (3, .ref (ad kf)), (4, .int (iI (za))), (5, .int (iI (zb)))] := hl
      refine lv_aload_n hx hb d_Ed_shorten_30 rfl (lv_at hl 1 rfl) ?_
      refine lv_iload hx hb d_Ed_shorten_31 (lv_at hl 0 rfl) ?_
      refine lv_lload_n hx hb d_Ed_shorten_33 rfl (lv_at hl 2 rfl) ?_
      refine lv_aload_n hx hb d_Ed_shorten_34 rfl (lv_at hl 3 rfl) ?_
      refine c_fl (wc := [(x, .inr (1, [.ref dg, .int (iI (((dl X : Nat) : Int))), .int (iI (pt)), .int (iI (zl)), .ref q])), (dg, .inl (cB, 1200, .inl g)), (q, .inr (0, [.ref pa, .int (iI (zh))])), (pa, .inl (cI, 306, .inl h))]) (wr := []) (va_runV (C := "ExactDigits") (As := [.int (iI ((n : Int))), .long (jI ((s0 : Int))), .ref (ad kf)]) (rest := []) ⟨hx, hb, hml, hown, hts⟩ (c_Ed_neighbourReadBack l D cB cI cJ t5 ad x dg q pa g h zh pt zl X n kf s0 hkf hnm (by omega) (by omega) (by have := hs63 (by omega); omega) hpt H.size) (cwV 3 hts (gV tw_255 tw_257 ts_8 tw_1 tw_258) rfl rfl rfl (by decide +kernel) ⟨Nat.le_of_ble_eq_true rfl, Nat.le_of_ble_eq_true rfl⟩) ⟨c_blind (eX_X t5 ad), va_recv (ci := 1) (q0 := 0) hK hP rfl rfl, fun U hU hW => c_pre (wc := [(x, .inr (1, [.ref dg, .int (iI (((dl X : Nat) : Int))), .int (iI (pt)), .int (iI (zl)), .ref q])), (dg, .inl (cB, 1200, .inl g)), (q, .inr (0, [.ref pa, .int (iI (zh))])), (pa, .inl (cI, 306, .inl h))]) (eX_X t5 ad) hE hK hP hD hS hA [0, 1, 2, 3] rfl (by decide) U hU hW⟩ rfl rfl hl.1 rfl (lv_room (Nat.le_of_ble_eq_true rfl)) d_Ed_shorten_35 ⟨Nat.le_of_ble_eq_true rfl, Nat.le_of_ble_eq_true rfl⟩) hP hD hS hA [0, 1, 2, 3] [] rfl rfl (by decide) (by decide) (fun r u H locs hp hP hD hS => ?_)
      obtain ⟨hnb, f4, zs4, rfl⟩ := hp
      have hP : va_P D ecl [(x, .inr (1, [.ref dg, .int (iI (((dl X : Nat) : Int))), .int (iI (pt)), .int (iI (zl)), .ref q])), (dg, .inl (cB, 1200, .inl g)), (q, .inr (0, [.ref pa, .int (iI (zs4))])), (pa, .inl (cI, 306, .inl f4))] H := hP
      have hD : va_D A [(x, .inr (1, [.ref dg, .int (iI (((dl X : Nat) : Int))), .int (iI (pt)), .int (iI (zl)), .ref q])), (dg, .inl (cB, 1200, .inl g)), (q, .inr (0, [.ref pa, .int (iI (zs4))])), (pa, .inl (cI, 306, .inl f4))] := hD
      rcases hnb with ⟨v, rfl, hv⟩ | ⟨rfl, hnn⟩
      · skip
        have hny : ¬ NBno X n (pt - (n : Int)) kf s0 := fun z => by unfold NBR at hv; unfold NBno at z; obtain ⟨z1, z2⟩ := z; rcases hv with ⟨_, ⟨y1, _⟩ | ⟨_, y1, _⟩⟩ | ⟨_, ⟨y1, _⟩ | ⟨_, y1, _⟩⟩ <;> first | exact z1 y1 | exact z2 y1
        have hvl : v < 9223372036854775807 := by have := nb_18 (X := X) (n := n) (by omega) (by omega); unfold NBR at hv; rcases hv with ⟨_, ⟨_, y1⟩ | ⟨_, _, y1⟩⟩ | ⟨_, ⟨_, y1⟩ | ⟨_, _, y1⟩⟩ <;> omega
        refine ed_pc (pc' := 38) rfl ?_
        refine lv_ldc2 (v := (-1)) hx hb hown (hts _ (List.mem_cons_of_mem _ tw_272)) d_Ed_shorten_38 ?_
        refine ed_tl (y := (jI (-1))) (by decide +kernel) ?_
        refine ed_lif_eq (tgt := 52) hx hb d_Ed_shorten_41 d_Ed_shorten_42 rfl (by omega) (by omega) (fun h_5 => ?_) (fun h_5 => ?_)
        · exact absurd h_5 (by omega)
        · skip
          refine ed_pc (pc' := 45) rfl ?_
          refine lv_iload hx hb d_Ed_shorten_45 (lv_at hl 0 rfl) ?_
          refine lv_istore hx hb d_Ed_shorten_47 hl (by decide) rfl (fun ls hl => ?_)
          have hl : lv_has ls 8 [(5, .int (iI ((n : Int)))), (6, .int (iI ((n : Int)))), (0, .ref x), (1, .long (jI ((s0 : Int)))), (3, .ref (ad kf)), (4, .int (iI (za)))] := hl
          refine lv_goto (tgt := 58) hx hb d_Ed_shorten_49 rfl ?_
          refine lv_goto (tgt := 14) hx hb d_Ed_shorten_58 rfl ?_
          have hl := lv_sub hl [2, 3, 4, 5, 0] rfl
          exact ih _ (by omega) (a) (n) (f4) _ _ _ ls H locs rfl (hza) (rfl) (ha2) (by omega) (by omega) (hno) (fun _ _ => ⟨by omega, hny⟩) (fun z => by omega) hl hP hD hS
      · skip
        refine ed_pc (pc' := 38) rfl ?_
        refine lv_ldc2 (v := (-1)) hx hb hown (hts _ (List.mem_cons_of_mem _ tw_272)) d_Ed_shorten_38 ?_
        refine ed_tl (y := (jI (-1))) (by decide +kernel) ?_
        refine ed_lif_eq (tgt := 52) hx hb d_Ed_shorten_41 d_Ed_shorten_42 rfl (by omega) (by omega) (fun h_6 => ?_) (fun h_6 => ?_)
        · skip
          refine ed_pc (pc' := 52) rfl ?_
          refine lv_iload hx hb d_Ed_shorten_52 (lv_at hl 0 rfl) ?_
          refine lv_iconst (v := iI 1) hx hb d_Ed_shorten_54 rfl ?_
          refine ed_iadd hx hb d_Ed_shorten_55 ?_
          refine lv_istore hx hb d_Ed_shorten_56 hl (by decide) rfl (fun ls hl => ?_)
          have hl : lv_has ls 8 [(4, .int (iI (((n : Int)) + (1)))), (6, .int (iI ((n : Int)))), (0, .ref x), (1, .long (jI ((s0 : Int)))), (3, .ref (ad kf)), (5, .int (iI (zb)))] := hl
          refine lv_goto (tgt := 14) hx hb d_Ed_shorten_58 rfl ?_
          have hl := lv_sub hl [2, 3, 4, 0, 5] rfl
          exact ih _ (by omega) (n + 1) (b) (f4) _ _ _ ls H locs rfl (by omega) (hzb) (by omega) (hbL) (hb17) (fun j h1 h2 h3 => by rw [hs0] at hnn ⊢; exact NB_mono hkf (hXL (by omega)) (by omega) (by omega) hnn) (hyes) (fun z => by omega) hl hP hD hS
        · exact absurd h_6 (by omega)
  refine lv_iconst (v := iI 2) hx hb d_Ed_shorten_0 rfl ?_
  refine lv_istore hx hb d_Ed_shorten_1 hl (by decide) rfl (fun ls hl => ?_)
  have hl : lv_has ls 8 [(4, .int (iI (2))), (0, .ref x), (1, .long (jI ((s0 : Int)))), (3, .ref (ad kf))] := hl
  refine lv_aload_n hx hb d_Ed_shorten_3 rfl (lv_at hl 1 rfl) ?_
  refine va_get (D := D) (ci := 1) (v := .int (iI (((dl X : Nat) : Int)))) (C := R_Ed) (T := T_Ed) (N := 5) hx hb hts (fun w h => List.mem_cons_of_mem _ (in_Ed w h)) hown hK hP 0 rfl rfl 1 (by decide) (hts _ (List.mem_cons_of_mem _ tw_41)) (fun _ h9 => h9) rfl d_Ed_shorten_4 ?_
  refine lv_bipush (v := iI 17) hx hb d_Ed_shorten_7 (by decide +kernel) ?_
  refine ed_min hx hb (hml.trans hl.1.symm) hown (hts _ (List.mem_cons_of_mem _ tw_86)) (hts _ (List.mem_cons_of_mem _ tw_84)) (hts _ (List.mem_cons_of_mem _ tw_6)) (hts _ (List.mem_cons_of_mem _ tw_85)) (Nat.le_of_ble_eq_true rfl) (Nat.le_of_ble_eq_true rfl) (Nat.le_of_ble_eq_true rfl) (Nat.le_of_ble_eq_true rfl) (by omega) (by omega) d_Ed_shorten_9 ?_
  refine lv_istore hx hb d_Ed_shorten_12 hl (by decide) rfl (fun ls hl => ?_)
  have hl : lv_has ls 8 [(5, .int (iI (min (((dl X : Nat) : Int)) (17)))), (4, .int (iI (2))), (0, .ref x), (1, .long (jI ((s0 : Int)))), (3, .ref (ad kf))] := hl
  have hl := lv_sub hl [2, 3, 4, 1, 0] rfl
  exact L14 _ (2) (min (dl X) 17) (f) _ _ _ ls s.heap [] rfl (rfl) (by omega) (by omega) (by omega) (by omega) (fun j h1 h2 _ => by omega) (fun h1 h2 => by omega) (fun _ => Or.inl rfl) hl hP hD hS
end
section
/-! what the bits of a finite double or float mean -/
def exE (kf x : Nat) : Nat := x / 2 ^ fbz kf - 1
/-- significand times two to the exponent, the tens apart -/
def exV (kf x : Nat) : Nat := sgz kf x * tw2 (lez kf + ((exE kf x : Nat) : Int))
theorem ex_s (kf x : Nat) : x = exE kf x * 2 ^ fbz kf + sgz kf x := by
  unfold exE sgz
  rcases Nat.lt_or_ge x (2 ^ fbz kf) with h | h
  · rw [if_pos h, Nat.div_eq_of_lt h, Nat.mod_eq_of_lt h]; simp
  · rw [if_neg (by omega)]
    have h1 := Nat.div_pos h (p2_pos (fbz kf))
    have h2 := Nat.div_add_mod' x (2 ^ fbz kf)
    have h3 : (x / 2 ^ fbz kf - 1) * 2 ^ fbz kf + 2 ^ fbz kf = x / 2 ^ fbz kf * 2 ^ fbz kf := by
      have : x / 2 ^ fbz kf = x / 2 ^ fbz kf - 1 + 1 := by omega
      rw [this, Nat.add_sub_cancel, Nat.add_mul, Nat.one_mul]
    omega
theorem ex_m (kf x : Nat) : sgz kf x < 2 ^ (fbz kf + 1) ∧ (0 < exE kf x → 2 ^ fbz kf ≤ sgz kf x) := by
  have hm : x % 2 ^ fbz kf < 2 ^ fbz kf := Nat.mod_lt _ (p2_pos _)
  unfold sgz exE
  rw [Nat.pow_succ]
  rcases Nat.lt_or_ge x (2 ^ fbz kf) with h | h
  · rw [if_pos h, Nat.div_eq_of_lt h]
    exact ⟨by omega, fun z => by omega⟩
  · rw [if_neg (by omega)]
    exact ⟨by omega, fun _ => by omega⟩
theorem ex_e {kf x : Nat} (hkf : kf < 2) (hx : x < ifz kf) : exE kf x < jz kf := by
  have hq : x / 2 ^ fbz kf < jz kf + 1 := by rw [Nat.div_lt_iff_lt_mul (p2_pos _), ← ifz_eq kf hkf]; exact hx
  have hz := fz_all kf hkf
  unfold exE
  omega
theorem ex_0 {kf x : Nat} : sgz kf x = 0 ↔ x = 0 := by
  constructor
  · intro h
    have h1 := ex_s kf x
    have h2 := (ex_m kf x).2
    rcases Nat.eq_zero_or_pos (exE kf x) with z | z
    · rw [z, h] at h1; omega
    · have := h2 z; have := p2_pos (fbz kf); omega
  · rintro rfl
    unfold sgz
    rw [if_pos (p2_pos _)]; simp
theorem tw2_le {k : Int} (hk : -1100 ≤ k ∧ k ≤ 1100) : tw2 k ≤ 10 ^ 1100 := by
  unfold tw2 tw2p
  rcases Int.le_total 0 k with z | z
  · have e : (-k).toNat = 0 := by omega
    rw [e, Nat.pow_zero, Nat.mul_one]
    exact Nat.le_trans (p2_10 _) (p10_le (by omega))
  · have e : k.toNat = 0 := by omega
    rw [e, Nat.pow_zero, Nat.one_mul]
    exact Nat.le_trans (p5_10 _) (p10_le (by omega))
theorem ex_dl {kf x : Nat} (hkf : kf < 2) (hx : x < ifz kf) : dl (exV kf x) ≤ 1200 := by
  have hz := fz_all kf hkf
  have he := ex_e hkf hx
  apply dl_bound
  have h1 : sgz kf x < 10 ^ 20 := Nat.lt_of_lt_of_le (ex_m kf x).1 (Nat.le_trans (Nat.pow_le_pow_right (by decide) (show fbz kf + 1 ≤ 53 by omega)) (by decide))
  have h2 := tw2_le (k := lez kf + ((exE kf x : Nat) : Int)) (by omega)
  have h3 : exV kf x < 10 ^ 20 * 10 ^ 1100 := Nat.lt_of_lt_of_le (Nat.mul_lt_mul_of_pos_right h1 (tw2_pos _)) (Nat.mul_le_mul_left _ h2)
  rw [← Nat.pow_add] at h3
  exact Nat.lt_of_lt_of_le h3 (p10_le (by decide))
theorem gv_small {V : Nat} (h : dl V ≤ 1200) : gvD V = rz V := by
  unfold gvD
  have : dl V - 1200 = 0 := by omega
  rw [this, Nat.pow_zero, Nat.div_one]
theorem hdb_small {V : Nat} (h : dl V ≤ 1200) : hdb V (((dl V : Nat) : Int) - 1200) = 0 := by
  unfold hdb
  have : (((dl V : Nat) : Int) - 1200).toNat = 0 := by omega
  rw [this, Nat.pow_zero, Nat.mod_one, if_pos rfl]
theorem ex_room {kf x : Nat} (hkf : kf < 2) (hx : x < ifz kf) : sgz kf x * tw2 (lez kf + ((exE kf x : Nat) : Int)) < 1000000000 ^ 306 := by
  have h := ex_dl hkf hx
  have h2 := dl_lt (exV kf x)
  rw [pB_10]
  exact Nat.lt_of_lt_of_le h2 (p10_le (by omega))
/-- the digits of a finite one are just it -/
theorem ex_exa {kf x : Nat} (hkf : kf < 2) (hx : x < ifz kf) (h0 : 0 < x) : EXA (rz (exV kf x)) (((dl (exV kf x) : Nat) : Int) + min (lez kf + ((exE kf x : Nat) : Int)) 0) kf (exE kf x) (sgz kf x) := by
  have hz := fz_all kf hkf
  have hm0 : 0 < sgz kf x := by
    rcases Nat.eq_zero_or_pos (sgz kf x) with z | z
    · have := ex_0.mp z; omega
    · exact z
  have hV : 0 < exV kf x := Nat.mul_pos hm0 (tw2_pos _)
  refine ⟨rz_pos hV, hm0, (ex_m kf x).1, (ex_m kf x).2, by rw [← ex_s]; exact hx, ?_⟩
  have hd := dl_rz hV
  have e : ((dl (exV kf x) : Nat) : Int) + min (lez kf + ((exE kf x : Nat) : Int)) 0 - ((dl (rz (exV kf x)) : Nat) : Int) = min (lez kf + ((exE kf x : Nat) : Int)) 0 + ((rt (exV kf x) : Nat) : Int) := by omega
  rw [e]
  have h1 := nP_sc (rz (exV kf x)) (rt (exV kf x)) (min (lez kf + ((exE kf x : Nat) : Int)) 0) kf
  rw [← rz_eq] at h1
  have h2 : nP (exV kf x) (min (lez kf + ((exE kf x : Nat) : Int)) 0) kf = sgz kf x * (nM (min (lez kf + ((exE kf x : Nat) : Int)) 0) * 2 ^ exE kf x) := by
    unfold nP nM exV tw2 tw2p
    generalize hk : lez kf + ((exE kf x : Nat) : Int) = k
    have e1 : (min k 0).toNat = 0 := by omega
    have e2 : (-(min k 0)).toNat = (-k).toNat := by omega
    rw [e1, e2, Nat.pow_zero, Nat.mul_one]
    have e3 : 2 ^ k.toNat * 2 ^ (-lez kf).toNat = 2 ^ (-k).toNat * 2 ^ exE kf x := by rw [← Nat.pow_add, ← Nat.pow_add]; congr 1; omega
    have e4 : 10 ^ (-k).toNat = 5 ^ (-k).toNat * 2 ^ (-k).toNat := by rw [← Nat.mul_pow]
    calc sgz kf x * (2 ^ k.toNat * 5 ^ (-k).toNat) * 2 ^ (-lez kf).toNat = (2 ^ k.toNat * 2 ^ (-lez kf).toNat) * (sgz kf x * 5 ^ (-k).toNat) := by ac_rfl
      _ = (2 ^ (-k).toNat * 2 ^ exE kf x) * (sgz kf x * 5 ^ (-k).toNat) := by rw [e3]
      _ = sgz kf x * (5 ^ (-k).toNat * 2 ^ (-k).toNat * 2 ^ exE kf x) := by ac_rfl
      _ = sgz kf x * (10 ^ (-k).toNat * 2 ^ exE kf x) := by rw [e4]
  rw [h2] at h1
  apply Nat.eq_of_mul_eq_mul_right (nM_pos (min (lez kf + ((exE kf x : Nat) : Int)) 0))
  rw [h1]; ac_rfl
section ThrowC
variable {p : Program} {l : Launch} {e : Env} {R : Room} {s : State} {m : MethodId} {args : Array Value} {below : List Frame} {meth : Method} {c : Code} {H : Heap} {locs : List Loc} {cells slots : Nat} {pc : Nat} {ls : Array Slot} {rest st0 : List Value} {a : Array Value} {A0 : Nat → Prop} {mc ms : Nat} {D : va_G} {cl : List vw_C} {ws : va_W} {cls : String} {Qc : Array Value → State → Outcome → State → Prop}
/-- a callee without cells throws: so does the caller -/
theorem c_thr (hr : vx_Run p l e R s m args below meth c H locs cells slots 1 6 (F0 m pc ls st0) rest (va_Ql (fun (_ : Int64) (_ : va_W) => False) (c_B D cl (va_A [] H.size)) (va_A [] H.size) a) (c_XC D cl (va_A [] H.size) [] cls) (va_A [] H.size))
    (hP : va_P D cl ws H) (hD : va_D A0 ws) (hS : va_S A0 s.heap H locs) (hA : ∀ q, s.heap.size ≤ q → A0 q) (htab : ∀ x ∈ c.exceptionTable.toList, False) (hlocks : meth.locks = false) (hc : cells + 1 ≤ mc) (hs : slots + 6 ≤ ms) :
    W p l e R s m args below meth c H locs cells slots (vx_MQ below Qc (c_XC D cl A0 ws cls) args s mc ms A0) (F0 m pc ls st0) := by
  have hF := va_free (wc := []) hD hS hA [] rfl
  refine vx_calll hr hS (fun q _ h => hF q h) hF (fun q _ h => hF q h) (fun E ce q9 u t H1 locs1 ht hvm hp hB hz hk hS1 hce hcv hcl => ?_) (fun r u t H1 locs1 ht hvm hp _ _ _ _ => hp.elim)
  obtain ⟨rfl, -⟩ := hB
  refine vx_out (fun x h => (htab x h).elim) hlocks hce hcv hcl (fun t9 ht9 _ => c_xc hP hD hS (by rw [ht9]; exact hz) (fun q hq => ?_)) hS1.2.2 hc hs
  rw [ht9]
  refine hk q hq ?_
  rintro (⟨k, e9, z⟩ | z)
  · simp at z
  · exact absurd hq (Nat.not_lt.mpr z)
end ThrowC
end
section
set_option maxHeartbeats 4000000 in
set_option maxRecDepth 100000 in
theorem c_Ed_giveExact (l : Launch) (D : va_G) (cB cI cJ : ClassId) (t5 : Nat) (ad : Nat → Nat) (x dg q pa : Nat) (g f : Nat → Int32) (zs zc pt zl : Int) (kf y : Nat) (hkf : kf < 2) (hy : y < ifz kf) : c_V l m_Ed_giveExact (Cond.code m_Ed_giveExact b_Ed_giveExact 4 none :: gw) (rm_ 4 93) (eX t5 ad) D ecl (tyS cB cI cJ) [.ref x, .long (jI ((y : Int))), .ref (ad kf)] [(x, .inr (1, [.ref dg, .int (iI (zc)), .int (iI (pt)), .int (iI (zl)), .ref q])), (dg, .inl (cB, 1200, .inl g)), (q, .inr (0, [.ref pa, .int (iI (zs))])), (pa, .inl (cI, 306, .inl f))] (fun u => ∃ (g' f' : Nat → Int32) (zs' : Int), nm_ok g' (rz (exV kf y)) ∧ u = [(x, .inr (1, [.ref dg, .int (iI (((dl (rz (exV kf y)) : Nat) : Int))), .int (iI (if y = 0 then 0 else ((dl (exV kf y) : Nat) : Int) + min (lez kf + ((exE kf y : Nat) : Int)) 0)), .int (iI (0)), .ref q])), (dg, .inl (cB, 1200, .inl g')), (q, .inr (0, [.ref pa, .int (iI (zs'))])), (pa, .inl (cI, 306, .inl f'))]) 0 0 := by
  intro sz0
  refine Met.ofW (cc := b_Ed_giveExact) (maxL := 4) (ret := none) (by decide) rfl ?_
  intro p e s m args below meth c s₁ B hml hv
  obtain ⟨rfl, hsz, hP, hK, hD0, hE⟩ := hv
  have hx := B.exec
  have hb := B.bytes
  have hr := B.returns
  have hts := atoms_spec (ws := Cond.code m_Ed_giveExact b_Ed_giveExact 4 none :: gw) B.pre
  have hown : s.vm.findClass R_Ed = some m.cls := findClass_of_methodNamed B.named
  have hlocks := B.notSynchronized
  subst hsz
  have hD := hD0.self (sz := s.heap.size)
  generalize hAe : va_A [(x, .inr (1, [.ref dg, .int (iI (zc)), .int (iI (pt)), .int (iI (zl)), .ref q])), (dg, .inl (cB, 1200, .inl g)), (q, .inr (0, [.ref pa, .int (iI (zs))])), (pa, .inl (cI, 306, .inl f))] s.heap.size = A at hD hE ⊢
  have hA : ∀ q : Nat, s.heap.size ≤ q → A q := fun q h => by rw [← hAe]; exact Or.inr h
  have hS : va_S A s.heap s.heap [] := va_S.rf
  have hl := lv_entry ([.ref x, .long (jI ((y : Int))), .ref (ad kf)]) (n := 4) (Nat.le_of_ble_eq_true rfl)
  rw [lg_entry_eq]
  generalize (lg_sl ([.ref x, .long (jI ((y : Int))), .ref (ad kf)]) ++ List.replicate (4 - (lg_sl ([.ref x, .long (jI ((y : Int))), .ref (ad kf)])).length) Slot.unset).toArray = ls at hl ⊢
  have hl : lv_has ls 4 [(0, .ref x), (1, .long (jI ((y : Int)))), (3, .ref (ad kf))] := hl
  have hfz := fz_all kf hkf
  have hE5 := hE.2.2.2.2.1
  have he := ex_e hkf hy
  have hsm := (ex_m kf y).1
  have hs54 : 2 ^ (fbz kf + 1) ≤ 2 ^ 53 := Nat.pow_le_pow_right (by decide) (by omega)
  have hxe : max (((y / 2 ^ fbz kf : Nat) : Int) - 1) 0 = ((exE kf y : Nat) : Int) := by unfold exE; omega
  have hVR := ex_room hkf hy
  have hVd := ex_dl hkf hy
  have hV0 : exV kf y = 0 ↔ y = 0 := by unfold exV; rw [Nat.mul_eq_zero]; exact ⟨fun z => z.elim (fun z => ex_0.mp z) (fun z => absurd z (Nat.ne_of_gt (tw2_pos _))), fun z => Or.inl (ex_0.mpr z)⟩
  refine lv_aload_n hx hb d_Ed_giveExact_0 rfl (lv_at hl 0 rfl) ?_
  refine va_get (D := D) (ci := 1) (v := .ref q) (C := R_Ed) (T := T_Ed) (N := 5) hx hb hts (fun w h => List.mem_cons_of_mem _ (in_Ed w h)) hown hK hP 0 rfl rfl 4 (by decide) (hts _ (List.mem_cons_of_mem _ tw_44)) (fun _ h9 => h9) rfl d_Ed_giveExact_1 ?_
  refine lv_aload_n hx hb d_Ed_giveExact_4 rfl (lv_at hl 2 rfl) ?_
  refine lv_lload_n hx hb d_Ed_giveExact_5 rfl (lv_at hl 1 rfl) ?_
  refine c_fl (wc := []) (wr := [(x, .inr (1, [.ref dg, .int (iI (zc)), .int (iI (pt)), .int (iI (zl)), .ref q])), (dg, .inl (cB, 1200, .inl g)), (q, .inr (0, [.ref pa, .int (iI (zs))])), (pa, .inl (cI, 306, .inl f))]) (va_runV (C := "ExactDigits$Format") (As := [.long (jI ((y : Int)))]) (rest := [.ref q]) ⟨hx, hb, hml, hown, hts⟩ (c_Fo_significand l D cB cI cJ t5 ad kf y hkf (by omega) s.heap.size) (cwV 1 hts (gV tw_236 tw_237 tw_238 tw_10 tw_239) rfl rfl rfl (by decide +kernel) ⟨Nat.le_of_ble_eq_true rfl, Nat.le_of_ble_eq_true rfl⟩) ⟨c_blind (eX_X t5 ad), va_Orecv (hE5 kf hkf) hS, fun U hU hW => c_pre (wc := []) (eX_X t5 ad) hE hK hP hD hS hA [] rfl (by decide) U hU hW⟩ rfl rfl hl.1 rfl (lv_room (Nat.le_of_ble_eq_true rfl)) d_Ed_giveExact_6 ⟨Nat.le_of_ble_eq_true rfl, Nat.le_of_ble_eq_true rfl⟩) hP hD hS hA [] [0, 1, 2, 3] rfl rfl (by decide) (by decide) (fun r u H locs hp hP hD hS => ?_)
  obtain ⟨rfl, rfl⟩ := hp
  have hP : va_P D ecl [(x, .inr (1, [.ref dg, .int (iI (zc)), .int (iI (pt)), .int (iI (zl)), .ref q])), (dg, .inl (cB, 1200, .inl g)), (q, .inr (0, [.ref pa, .int (iI (zs))])), (pa, .inl (cI, 306, .inl f))] H := hP
  have hD : va_D A [(x, .inr (1, [.ref dg, .int (iI (zc)), .int (iI (pt)), .int (iI (zl)), .ref q])), (dg, .inl (cB, 1200, .inl g)), (q, .inr (0, [.ref pa, .int (iI (zs))])), (pa, .inl (cI, 306, .inl f))] := hD
  refine ed_tl (y := (lN (sgz kf y))) (jI_nat _) ?_
  refine c_fv (wc := [(q, .inr (0, [.ref pa, .int (iI (zs))])), (pa, .inl (cI, 306, .inl f))]) (wr := [(x, .inr (1, [.ref dg, .int (iI (zc)), .int (iI (pt)), .int (iI (zl)), .ref q])), (dg, .inl (cB, 1200, .inl g))]) (va_runV (C := "ExactDigits$Natural") (As := [.long (lN (sgz kf y))]) (rest := []) ⟨hx, hb, hml, hown, hts⟩ (c_Na_setUnsigned l D cB cI cJ t5 ad q pa f zs (sgz kf y) (by omega) H.size) (cwV 1 hts (gV tw_60 tw_61 tw_62 tw_2 tw_63) rfl rfl rfl (by decide +kernel) ⟨Nat.le_of_ble_eq_true rfl, Nat.le_of_ble_eq_true rfl⟩) ⟨c_blind (eX_X t5 ad), va_recv (ci := 0) (q0 := 2) hK hP rfl rfl, fun U hU hW => c_pre (wc := [(q, .inr (0, [.ref pa, .int (iI (zs))])), (pa, .inl (cI, 306, .inl f))]) (eX_X t5 ad) hE hK hP hD hS hA [2, 3] rfl (by decide) U hU hW⟩ rfl rfl hl.1 rfl (lv_room (Nat.le_of_ble_eq_true rfl)) d_Ed_giveExact_9 ⟨Nat.le_of_ble_eq_true rfl, Nat.le_of_ble_eq_true rfl⟩) hP hD hS hA [2, 3] [0, 1] rfl rfl (by decide) (by decide) (fun u H locs hp hP hD hS => ?_)
  obtain ⟨f2, sz2, rfl, hok⟩ := hp
  have hP : va_P D ecl [(x, .inr (1, [.ref dg, .int (iI (zc)), .int (iI (pt)), .int (iI (zl)), .ref q])), (dg, .inl (cB, 1200, .inl g)), (q, .inr (0, [.ref pa, .int (iI ((sz2 : Int)))])), (pa, .inl (cI, 306, .inl f2))] H := hP
  have hD : va_D A [(x, .inr (1, [.ref dg, .int (iI (zc)), .int (iI (pt)), .int (iI (zl)), .ref q])), (dg, .inl (cB, 1200, .inl g)), (q, .inr (0, [.ref pa, .int (iI ((sz2 : Int)))])), (pa, .inl (cI, 306, .inl f2))] := hD
  refine lv_aload_n hx hb d_Ed_giveExact_12 rfl (lv_at hl 0 rfl) ?_
  refine ed_pc (pc' := 13) rfl ?_
  refine lv_aload_n hx hb d_Ed_giveExact_13 rfl (lv_at hl 0 rfl) ?_
  refine va_get (D := D) (ci := 1) (v := .ref q) (C := R_Ed) (T := T_Ed) (N := 5) hx hb hts (fun w h => List.mem_cons_of_mem _ (in_Ed w h)) hown hK hP 0 rfl rfl 4 (by decide) (hts _ (List.mem_cons_of_mem _ tw_44)) (fun _ h9 => h9) rfl d_Ed_giveExact_14 ?_
  refine lv_aload_n hx hb d_Ed_giveExact_17 rfl (lv_at hl 2 rfl) ?_
  refine lv_lload_n hx hb d_Ed_giveExact_18 rfl (lv_at hl 1 rfl) ?_
  refine c_fi (wc := []) (wr := [(x, .inr (1, [.ref dg, .int (iI (zc)), .int (iI (pt)), .int (iI (zl)), .ref q])), (dg, .inl (cB, 1200, .inl g)), (q, .inr (0, [.ref pa, .int (iI ((sz2 : Int)))])), (pa, .inl (cI, 306, .inl f2))]) (va_runV (C := "ExactDigits$Format") (As := [.long (jI ((y : Int)))]) (rest := [.ref q, .ref x]) ⟨hx, hb, hml, hown, hts⟩ (c_Fo_exponent l D cB cI cJ t5 ad kf y hkf hy H.size) (cwV 1 hts (gV tw_240 tw_241 tw_242 tw_10 tw_243) rfl rfl rfl (by decide +kernel) ⟨Nat.le_of_ble_eq_true rfl, Nat.le_of_ble_eq_true rfl⟩) ⟨c_blind (eX_X t5 ad), va_Orecv (hE5 kf hkf) hS, fun U hU hW => c_pre (wc := []) (eX_X t5 ad) hE hK hP hD hS hA [] rfl (by decide) U hU hW⟩ rfl rfl hl.1 rfl (lv_room (Nat.le_of_ble_eq_true rfl)) d_Ed_giveExact_19 ⟨Nat.le_of_ble_eq_true rfl, Nat.le_of_ble_eq_true rfl⟩) hP hD hS hA [] [0, 1, 2, 3] rfl rfl (by decide) (by decide) (fun r u H locs hp hP hD hS => ?_)
  obtain ⟨rfl, rfl⟩ := hp
  have hP : va_P D ecl [(x, .inr (1, [.ref dg, .int (iI (zc)), .int (iI (pt)), .int (iI (zl)), .ref q])), (dg, .inl (cB, 1200, .inl g)), (q, .inr (0, [.ref pa, .int (iI ((sz2 : Int)))])), (pa, .inl (cI, 306, .inl f2))] H := hP
  have hD : va_D A [(x, .inr (1, [.ref dg, .int (iI (zc)), .int (iI (pt)), .int (iI (zl)), .ref q])), (dg, .inl (cB, 1200, .inl g)), (q, .inr (0, [.ref pa, .int (iI ((sz2 : Int)))])), (pa, .inl (cI, 306, .inl f2))] := hD
  refine ed_tz (y := lez kf + ((exE kf y : Nat) : Int)) (by rw [hxe]) ?_
  refine c_fi (wc := [(q, .inr (0, [.ref pa, .int (iI ((sz2 : Int)))])), (pa, .inl (cI, 306, .inl f2))]) (wr := [(x, .inr (1, [.ref dg, .int (iI (zc)), .int (iI (pt)), .int (iI (zl)), .ref q])), (dg, .inl (cB, 1200, .inl g))]) (va_runV (C := "ExactDigits$Natural") (As := [.int (iI (lez kf + ((exE kf y : Nat) : Int)))]) (rest := [.ref x]) ⟨hx, hb, hml, hown, hts⟩ (c_Na_timesTwoTo l D cB cI cJ t5 ad q pa f2 sz2 (sgz kf y) (lez kf + ((exE kf y : Nat) : Int)) (by omega) hok hVR H.size) (cwV 1 hts (gV tw_118 tw_119 tw_120 tw_2 tw_121) rfl rfl rfl (by decide +kernel) ⟨Nat.le_of_ble_eq_true rfl, Nat.le_of_ble_eq_true rfl⟩) ⟨c_blind (eX_X t5 ad), va_recv (ci := 0) (q0 := 2) hK hP rfl rfl, fun U hU hW => c_pre (wc := [(q, .inr (0, [.ref pa, .int (iI ((sz2 : Int)))])), (pa, .inl (cI, 306, .inl f2))]) (eX_X t5 ad) hE hK hP hD hS hA [2, 3] rfl (by decide) U hU hW⟩ rfl rfl hl.1 rfl (lv_room (Nat.le_of_ble_eq_true rfl)) d_Ed_giveExact_22 ⟨Nat.le_of_ble_eq_true rfl, Nat.le_of_ble_eq_true rfl⟩) hP hD hS hA [2, 3] [0, 1] rfl rfl (by decide) (by decide) (fun r u H locs hp hP hD hS => ?_)
  obtain ⟨rfl, f3, s3, rfl, hok3⟩ := hp
  have hP : va_P D ecl [(x, .inr (1, [.ref dg, .int (iI (zc)), .int (iI (pt)), .int (iI (zl)), .ref q])), (dg, .inl (cB, 1200, .inl g)), (q, .inr (0, [.ref pa, .int (iI ((s3 : Int)))])), (pa, .inl (cI, 306, .inl f3))] H := hP
  have hD : va_D A [(x, .inr (1, [.ref dg, .int (iI (zc)), .int (iI (pt)), .int (iI (zl)), .ref q])), (dg, .inl (cB, 1200, .inl g)), (q, .inr (0, [.ref pa, .int (iI ((s3 : Int)))])), (pa, .inl (cI, 306, .inl f3))] := hD
  refine c_fv (wc := [(x, .inr (1, [.ref dg, .int (iI (zc)), .int (iI (pt)), .int (iI (zl)), .ref q])), (dg, .inl (cB, 1200, .inl g)), (q, .inr (0, [.ref pa, .int (iI ((s3 : Int)))])), (pa, .inl (cI, 306, .inl f3))]) (wr := []) (va_runV (C := "ExactDigits") (As := [.int (iI (min (lez kf + ((exE kf y : Nat) : Int)) 0))]) (rest := []) ⟨hx, hb, hml, hown, hts⟩ (c_Ed_giveScratch l D cB cI cJ t5 ad x dg q pa g f3 s3 (exV kf y) zc pt zl (min (lez kf + ((exE kf y : Nat) : Int)) 0) (by omega) hok3 H.size) (cwV 1 hts (gV tw_66 tw_68 ts_0 tw_1 tw_69) rfl rfl rfl (by decide +kernel) ⟨Nat.le_of_ble_eq_true rfl, Nat.le_of_ble_eq_true rfl⟩) ⟨c_blind (eX_X t5 ad), va_recv (ci := 1) (q0 := 0) hK hP rfl rfl, fun U hU hW => c_pre (wc := [(x, .inr (1, [.ref dg, .int (iI (zc)), .int (iI (pt)), .int (iI (zl)), .ref q])), (dg, .inl (cB, 1200, .inl g)), (q, .inr (0, [.ref pa, .int (iI ((s3 : Int)))])), (pa, .inl (cI, 306, .inl f3))]) (eX_X t5 ad) hE hK hP hD hS hA [0, 1, 2, 3] rfl (by decide) U hU hW⟩ rfl rfl hl.1 rfl (lv_room (Nat.le_of_ble_eq_true rfl)) d_Ed_giveExact_25 ⟨Nat.le_of_ble_eq_true rfl, Nat.le_of_ble_eq_true rfl⟩) hP hD hS hA [0, 1, 2, 3] [] rfl rfl (by decide) (by decide) (fun u H locs hp hP hD hS => ?_)
  obtain ⟨g6, hnm6, rfl⟩ := hp
  have hP : va_P D ecl [(x, .inr (1, [.ref dg, .int (iI (((dl (gvD (exV kf y)) : Nat) : Int))), .int (iI (if exV kf y = 0 then 0 else ((dl (exV kf y) : Nat) : Int) + (min (lez kf + ((exE kf y : Nat) : Int)) 0))), .int (iI (hdb (exV kf y) (((dl (exV kf y) : Nat) : Int) - 1200))), .ref q])), (dg, .inl (cB, 1200, .inl g6)), (q, .inr (0, [.ref pa, .int (iI ((s3 : Int)))])), (pa, .inl (cI, 306, .inl f3))] H := hP
  have hD : va_D A [(x, .inr (1, [.ref dg, .int (iI (((dl (gvD (exV kf y)) : Nat) : Int))), .int (iI (if exV kf y = 0 then 0 else ((dl (exV kf y) : Nat) : Int) + (min (lez kf + ((exE kf y : Nat) : Int)) 0))), .int (iI (hdb (exV kf y) (((dl (exV kf y) : Nat) : Int) - 1200))), .ref q])), (dg, .inl (cB, 1200, .inl g6)), (q, .inr (0, [.ref pa, .int (iI ((s3 : Int)))])), (pa, .inl (cI, 306, .inl f3))] := hD
  rw [gv_small hVd] at hnm6
  exact W.vret hx hb hr (fun t9 ht9 hW9 => ⟨⟨[(x, .inr (1, [.ref dg, .int (iI (((dl (gvD (exV kf y)) : Nat) : Int))), .int (iI (if exV kf y = 0 then 0 else ((dl (exV kf y) : Nat) : Int) + (min (lez kf + ((exE kf y : Nat) : Int)) 0))), .int (iI (hdb (exV kf y) (((dl (exV kf y) : Nat) : Int) - 1200))), .ref q])), (dg, .inl (cB, 1200, .inl g6)), (q, .inr (0, [.ref pa, .int (iI ((s3 : Int)))])), (pa, .inl (cI, 306, .inl f3))], rfl, ⟨g6, f3, (s3 : Int), hnm6, by rw [gv_small hVd, hdb_small hVd]; simp only [hV0]⟩, by rw [ht9]; exact hP, hD⟩, hS.F ht9⟩) hS.2.2 d_Ed_giveExact_28
set_option maxHeartbeats 4000000 in
set_option maxRecDepth 100000 in
theorem c_Ed_real (l : Launch) (D : va_G) (cB cI cJ : ClassId) (t5 : Nat) (ad : Nat → Nat) (x dg q pa : Nat) (g f : Nat → Int32) (zs zc pt zl zz : Int) (kf b : Nat) (hzz : iR zz) (hkf9 : kf = if zz = 0 then 0 else 1) (hb64 : b < 2 ^ 64) (y : Nat) (hyb : y = b % (mkz kf + 1)) (hy : y < ifz kf) : c_I l m_Ed_real (Cond.code m_Ed_real b_Ed_real 5 (some .int) :: gw) (rm_ 7 116) (eX t5 ad) D ecl (tyS cB cI cJ) [.ref x, .long (lN b), .int (iI (zz))] [(x, .inr (1, [.ref dg, .int (iI (zc)), .int (iI (pt)), .int (iI (zl)), .ref q])), (dg, .inl (cB, 1200, .inl g)), (q, .inr (0, [.ref pa, .int (iI (zs))])), (pa, .inl (cI, 306, .inl f))] (fun r u => r = iI ((dl (rz (exV kf y)) : Nat) : Int) ∧ ∃ (g' f' : Nat → Int32) (zs' : Int), nm_ok g' (rz (exV kf y)) ∧ u = [(x, .inr (1, [.ref dg, .int (iI (((dl (rz (exV kf y)) : Nat) : Int))), .int (iI (if y = 0 then 0 else ((dl (exV kf y) : Nat) : Int) + min (lez kf + ((exE kf y : Nat) : Int)) 0)), .int (iI (0)), .ref q])), (dg, .inl (cB, 1200, .inl g')), (q, .inr (0, [.ref pa, .int (iI (zs'))])), (pa, .inl (cI, 306, .inl f'))]) 0 0 := by
  intro sz0
  refine Met.ofW (cc := b_Ed_real) (maxL := 5) (ret := (some .int)) (by decide) rfl ?_
  intro p e s m args below meth c s₁ B hml hv
  obtain ⟨rfl, hsz, hP, hK, hD0, hE⟩ := hv
  have hx := B.exec
  have hb := B.bytes
  have hr := B.returns
  have hts := atoms_spec (ws := Cond.code m_Ed_real b_Ed_real 5 (some .int) :: gw) B.pre
  have hown : s.vm.findClass R_Ed = some m.cls := findClass_of_methodNamed B.named
  have hlocks := B.notSynchronized
  subst hsz
  have hD := hD0.self (sz := s.heap.size)
  generalize hAe : va_A [(x, .inr (1, [.ref dg, .int (iI (zc)), .int (iI (pt)), .int (iI (zl)), .ref q])), (dg, .inl (cB, 1200, .inl g)), (q, .inr (0, [.ref pa, .int (iI (zs))])), (pa, .inl (cI, 306, .inl f))] s.heap.size = A at hD hE ⊢
  have hA : ∀ q : Nat, s.heap.size ≤ q → A q := fun q h => by rw [← hAe]; exact Or.inr h
  have hS : va_S A s.heap s.heap [] := va_S.rf
  have hl := lv_entry ([.ref x, .long (lN b), .int (iI (zz))]) (n := 5) (Nat.le_of_ble_eq_true rfl)
  rw [lg_entry_eq]
  generalize (lg_sl ([.ref x, .long (lN b), .int (iI (zz))]) ++ List.replicate (5 - (lg_sl ([.ref x, .long (lN b), .int (iI (zz))])).length) Slot.unset).toArray = ls at hl ⊢
  have hl : lv_has ls 5 [(0, .ref x), (1, .long (lN b)), (3, .int (iI (zz)))] := hl
  have hkf : kf < 2 := by rw [hkf9]; split <;> omega
  refine lv_iload_n hx hb d_Ed_real_0 rfl (lv_at hl 2 rfl) ?_
  refine c_fr (ra := ad kf) (va_runS (As := [.int (iI (zz))]) (rest := []) ⟨hx, hb, hml, hown, hts⟩ (c_Ed_formatOf l D cB cI cJ t5 ad zz kf hzz hkf9 s.heap.size) (va_cwS 1 hts (gS tw_103 tw_104 tw_1 tw_105) rfl rfl rfl (by decide +kernel) ⟨Nat.le_of_ble_eq_true rfl, Nat.le_of_ble_eq_true rfl⟩) ⟨c_blind (eX_X t5 ad), fun U hU hW => c_pre (wc := []) (eX_X t5 ad) hE hK hP hD hS hA [] rfl (by decide) U hU hW⟩ rfl rfl hl.1 rfl (lv_room (Nat.le_of_ble_eq_true rfl)) d_Ed_real_1 ⟨Nat.le_of_ble_eq_true rfl, Nat.le_of_ble_eq_true rfl⟩) hP hD hS hA [0, 1, 2, 3] rfl (by decide) (fun H locs hP hD hS => ?_)
  have hP : va_P D ecl [(x, .inr (1, [.ref dg, .int (iI (zc)), .int (iI (pt)), .int (iI (zl)), .ref q])), (dg, .inl (cB, 1200, .inl g)), (q, .inr (0, [.ref pa, .int (iI (zs))])), (pa, .inl (cI, 306, .inl f))] H := hP
  have hD : va_D A [(x, .inr (1, [.ref dg, .int (iI (zc)), .int (iI (pt)), .int (iI (zl)), .ref q])), (dg, .inl (cB, 1200, .inl g)), (q, .inr (0, [.ref pa, .int (iI (zs))])), (pa, .inl (cI, 306, .inl f))] := hD
  refine lv_astore hx hb d_Ed_real_4 hl (by decide) rfl (fun ls hl => ?_)
  have hl : lv_has ls 5 [(4, .ref (ad kf)), (0, .ref x), (1, .long (lN b)), (3, .int (iI (zz)))] := hl
  refine lv_aload_n hx hb d_Ed_real_6 rfl (lv_at hl 1 rfl) ?_
  refine lv_lload_n hx hb d_Ed_real_7 rfl (lv_at hl 2 rfl) ?_
  refine lv_aload hx hb d_Ed_real_8 (lv_at hl 0 rfl) ?_
  refine c_fl (wc := []) (wr := [(x, .inr (1, [.ref dg, .int (iI (zc)), .int (iI (pt)), .int (iI (zl)), .ref q])), (dg, .inl (cB, 1200, .inl g)), (q, .inr (0, [.ref pa, .int (iI (zs))])), (pa, .inl (cI, 306, .inl f))]) (va_runS (As := [.long (lN b), .ref (ad kf)]) (rest := [.ref x]) ⟨hx, hb, hml, hown, hts⟩ (c_Ed_finiteSize l D cB cI cJ t5 ad kf b hkf hb64 (by rw [← hyb]; exact hy) H.size) (va_cwS 2 hts (gS tw_163 tw_164 tw_1 tw_165) rfl rfl rfl (by decide +kernel) ⟨Nat.le_of_ble_eq_true rfl, Nat.le_of_ble_eq_true rfl⟩) ⟨c_blind (eX_X t5 ad), fun U hU hW => c_pre (wc := []) (eX_X t5 ad) hE hK hP hD hS hA [] rfl (by decide) U hU hW⟩ rfl rfl hl.1 rfl (lv_room (Nat.le_of_ble_eq_true rfl)) d_Ed_real_10 ⟨Nat.le_of_ble_eq_true rfl, Nat.le_of_ble_eq_true rfl⟩) hP hD hS hA [] [0, 1, 2, 3] rfl rfl (by decide) (by decide) (fun r u H locs hp hP hD hS => ?_)
  obtain ⟨rfl, rfl⟩ := hp
  have hP : va_P D ecl [(x, .inr (1, [.ref dg, .int (iI (zc)), .int (iI (pt)), .int (iI (zl)), .ref q])), (dg, .inl (cB, 1200, .inl g)), (q, .inr (0, [.ref pa, .int (iI (zs))])), (pa, .inl (cI, 306, .inl f))] H := hP
  have hD : va_D A [(x, .inr (1, [.ref dg, .int (iI (zc)), .int (iI (pt)), .int (iI (zl)), .ref q])), (dg, .inl (cB, 1200, .inl g)), (q, .inr (0, [.ref pa, .int (iI (zs))])), (pa, .inl (cI, 306, .inl f))] := hD
  refine ed_tj (y := (y : Int)) (by rw [hyb]) ?_
  refine ed_pc (pc' := 13) rfl ?_
  refine lv_aload hx hb d_Ed_real_13 (lv_at hl 0 rfl) ?_
  refine c_fv (wc := [(x, .inr (1, [.ref dg, .int (iI (zc)), .int (iI (pt)), .int (iI (zl)), .ref q])), (dg, .inl (cB, 1200, .inl g)), (q, .inr (0, [.ref pa, .int (iI (zs))])), (pa, .inl (cI, 306, .inl f))]) (wr := []) (va_runV (C := "ExactDigits") (As := [.long (jI ((y : Int))), .ref (ad kf)]) (rest := []) ⟨hx, hb, hml, hown, hts⟩ (c_Ed_giveExact l D cB cI cJ t5 ad x dg q pa g f zs zc pt zl kf y hkf hy H.size) (cwV 2 hts (gV tw_232 tw_234 ts_6 tw_1 tw_235) rfl rfl rfl (by decide +kernel) ⟨Nat.le_of_ble_eq_true rfl, Nat.le_of_ble_eq_true rfl⟩) ⟨c_blind (eX_X t5 ad), va_recv (ci := 1) (q0 := 0) hK hP rfl rfl, fun U hU hW => c_pre (wc := [(x, .inr (1, [.ref dg, .int (iI (zc)), .int (iI (pt)), .int (iI (zl)), .ref q])), (dg, .inl (cB, 1200, .inl g)), (q, .inr (0, [.ref pa, .int (iI (zs))])), (pa, .inl (cI, 306, .inl f))]) (eX_X t5 ad) hE hK hP hD hS hA [0, 1, 2, 3] rfl (by decide) U hU hW⟩ rfl rfl hl.1 rfl (lv_room (Nat.le_of_ble_eq_true rfl)) d_Ed_real_15 ⟨Nat.le_of_ble_eq_true rfl, Nat.le_of_ble_eq_true rfl⟩) hP hD hS hA [0, 1, 2, 3] [] rfl rfl (by decide) (by decide) (fun u H locs hp hP hD hS => ?_)
  obtain ⟨g6, f6, zs6, hnm6, rfl⟩ := hp
  have hP : va_P D ecl [(x, .inr (1, [.ref dg, .int (iI (((dl (rz (exV kf y)) : Nat) : Int))), .int (iI (if y = 0 then 0 else ((dl (exV kf y) : Nat) : Int) + min (lez kf + ((exE kf y : Nat) : Int)) 0)), .int (iI (0)), .ref q])), (dg, .inl (cB, 1200, .inl g6)), (q, .inr (0, [.ref pa, .int (iI (zs6))])), (pa, .inl (cI, 306, .inl f6))] H := hP
  have hD : va_D A [(x, .inr (1, [.ref dg, .int (iI (((dl (rz (exV kf y)) : Nat) : Int))), .int (iI (if y = 0 then 0 else ((dl (exV kf y) : Nat) : Int) + min (lez kf + ((exE kf y : Nat) : Int)) 0)), .int (iI (0)), .ref q])), (dg, .inl (cB, 1200, .inl g6)), (q, .inr (0, [.ref pa, .int (iI (zs6))])), (pa, .inl (cI, 306, .inl f6))] := hD
  refine lv_aload_n hx hb d_Ed_real_18 rfl (lv_at hl 1 rfl) ?_
  refine va_get (D := D) (ci := 1) (v := .int (iI (((dl (rz (exV kf y)) : Nat) : Int)))) (C := R_Ed) (T := T_Ed) (N := 5) hx hb hts (fun w h => List.mem_cons_of_mem _ (in_Ed w h)) hown hK hP 0 rfl rfl 1 (by decide) (hts _ (List.mem_cons_of_mem _ tw_41)) (fun _ h9 => h9) rfl d_Ed_real_19 ?_
  exact W.iret (v := (iI (((dl (rz (exV kf y)) : Nat) : Int)))) hx hb hr (fun t9 ht9 hW9 => ⟨⟨(iI (((dl (rz (exV kf y)) : Nat) : Int))), [(x, .inr (1, [.ref dg, .int (iI (((dl (rz (exV kf y)) : Nat) : Int))), .int (iI (if y = 0 then 0 else ((dl (exV kf y) : Nat) : Int) + min (lez kf + ((exE kf y : Nat) : Int)) 0)), .int (iI (0)), .ref q])), (dg, .inl (cB, 1200, .inl g6)), (q, .inr (0, [.ref pa, .int (iI (zs6))])), (pa, .inl (cI, 306, .inl f6))], rfl, ⟨rfl, g6, f6, zs6, hnm6, rfl⟩, by rw [ht9]; exact hP, hD⟩, hS.F ht9⟩) hS.2.2 d_Ed_real_22
set_option maxHeartbeats 4000000 in
set_option maxRecDepth 100000 in
theorem c_Ed_real_no (l : Launch) (hl0 : l.stackTraces = false) (D : va_G) (cB cI cJ : ClassId) (t5 : Nat) (ad : Nat → Nat) (x dg q pa : Nat) (g f : Nat → Int32) (zs zc pt zl zz : Int) (kf b : Nat) (hzz : iR zz) (hkf9 : kf = if zz = 0 then 0 else 1) (hb64 : b < 2 ^ 64) (hfin : ifz kf ≤ b % (mkz kf + 1)) : c_T l m_Ed_real (Cond.code m_Ed_real b_Ed_real 5 (some .int) :: gw) (rmx_ 7 116) (eX t5 ad) D ecl (tyS cB cI cJ) [.ref x, .long (lN b), .int (iI (zz))] [(x, .inr (1, [.ref dg, .int (iI (zc)), .int (iI (pt)), .int (iI (zl)), .ref q])), (dg, .inl (cB, 1200, .inl g)), (q, .inr (0, [.ref pa, .int (iI (zs))])), (pa, .inl (cI, 306, .inl f))] xAE := by
  intro sz0
  refine vx_ofW (cc := b_Ed_real) (maxL := 5) (ret := (some .int)) (by decide) rfl ?_
  intro p e s m args below meth c s₁ B hml htab hv
  obtain ⟨rfl, hsz, hP, hK, hD0, hE⟩ := hv
  have hx := B.exec
  have hb := B.bytes
  have hr := B.returns
  have hts := atoms_spec (ws := Cond.code m_Ed_real b_Ed_real 5 (some .int) :: gw) B.pre
  have hown : s.vm.findClass R_Ed = some m.cls := findClass_of_methodNamed B.named
  have hlocks := B.notSynchronized
  subst hsz
  have hD := hD0.self (sz := s.heap.size)
  generalize hAe : va_A [(x, .inr (1, [.ref dg, .int (iI (zc)), .int (iI (pt)), .int (iI (zl)), .ref q])), (dg, .inl (cB, 1200, .inl g)), (q, .inr (0, [.ref pa, .int (iI (zs))])), (pa, .inl (cI, 306, .inl f))] s.heap.size = A at hD hE ⊢
  have hA : ∀ q : Nat, s.heap.size ≤ q → A q := fun q h => by rw [← hAe]; exact Or.inr h
  have hS : va_S A s.heap s.heap [] := va_S.rf
  have hl := lv_entry ([.ref x, .long (lN b), .int (iI (zz))]) (n := 5) (Nat.le_of_ble_eq_true rfl)
  rw [lg_entry_eq]
  generalize (lg_sl ([.ref x, .long (lN b), .int (iI (zz))]) ++ List.replicate (5 - (lg_sl ([.ref x, .long (lN b), .int (iI (zz))])).length) Slot.unset).toArray = ls at hl ⊢
  have hl : lv_has ls 5 [(0, .ref x), (1, .long (lN b)), (3, .int (iI (zz)))] := hl
  have hkf : kf < 2 := by rw [hkf9]; split <;> omega
  refine lv_iload_n hx hb d_Ed_real_0 rfl (lv_at hl 2 rfl) ?_
  refine c_fr (ra := ad kf) (va_runS (As := [.int (iI (zz))]) (rest := []) ⟨hx, hb, hml, hown, hts⟩ (c_Ed_formatOf l D cB cI cJ t5 ad zz kf hzz hkf9 s.heap.size) (va_cwS 1 hts (gS tw_103 tw_104 tw_1 tw_105) rfl rfl rfl (by decide +kernel) ⟨Nat.le_of_ble_eq_true rfl, Nat.le_of_ble_eq_true rfl⟩) ⟨c_blind (eX_X t5 ad), fun U hU hW => c_pre (wc := []) (eX_X t5 ad) hE hK hP hD hS hA [] rfl (by decide) U hU hW⟩ rfl rfl hl.1 rfl (lv_room (Nat.le_of_ble_eq_true rfl)) d_Ed_real_1 ⟨Nat.le_of_ble_eq_true rfl, Nat.le_of_ble_eq_true rfl⟩) hP hD hS hA [0, 1, 2, 3] rfl (by decide) (fun H locs hP hD hS => ?_)
  have hP : va_P D ecl [(x, .inr (1, [.ref dg, .int (iI (zc)), .int (iI (pt)), .int (iI (zl)), .ref q])), (dg, .inl (cB, 1200, .inl g)), (q, .inr (0, [.ref pa, .int (iI (zs))])), (pa, .inl (cI, 306, .inl f))] H := hP
  have hD : va_D A [(x, .inr (1, [.ref dg, .int (iI (zc)), .int (iI (pt)), .int (iI (zl)), .ref q])), (dg, .inl (cB, 1200, .inl g)), (q, .inr (0, [.ref pa, .int (iI (zs))])), (pa, .inl (cI, 306, .inl f))] := hD
  refine lv_astore hx hb d_Ed_real_4 hl (by decide) rfl (fun ls hl => ?_)
  have hl : lv_has ls 5 [(4, .ref (ad kf)), (0, .ref x), (1, .long (lN b)), (3, .int (iI (zz)))] := hl
  refine lv_aload_n hx hb d_Ed_real_6 rfl (lv_at hl 1 rfl) ?_
  refine lv_lload_n hx hb d_Ed_real_7 rfl (lv_at hl 2 rfl) ?_
  refine lv_aload hx hb d_Ed_real_8 (lv_at hl 0 rfl) ?_
  exact c_thr (vx_runS (As := [.long (lN b), .ref (ad kf)]) (rest := [.ref x]) ⟨hx, hb, hml, hown, hts⟩ (c_Ed_finiteSize_no l hl0 D cB cI cJ t5 ad kf b hkf hb64 hfin H.size) (va_cwS 2 hts (gS tw_163 tw_164 tw_1 tw_165) rfl rfl rfl (by decide +kernel) ⟨Nat.le_of_ble_eq_true rfl, Nat.le_of_ble_eq_true rfl⟩) ⟨c_blind (eX_X t5 ad), fun U hU hW => c_pre (wc := []) (eX_X t5 ad) hE hK hP hD hS hA [] rfl (by decide) U hU hW⟩ rfl rfl hl.1 rfl (lv_room (Nat.le_of_ble_eq_true rfl)) d_Ed_real_10 ⟨Nat.le_of_ble_eq_true rfl, Nat.le_of_ble_eq_true rfl⟩) hP hD hS hA htab hlocks (Nat.le_of_ble_eq_true rfl) (Nat.le_of_ble_eq_true rfl)
set_option maxHeartbeats 4000000 in
set_option maxRecDepth 100000 in
theorem c_Ed_shortest_no (l : Launch) (hl0 : l.stackTraces = false) (D : va_G) (cB cI cJ : ClassId) (t5 : Nat) (ad : Nat → Nat) (x dg q pa : Nat) (g f : Nat → Int32) (zs zc pt zl zz : Int) (kf b : Nat) (hzz : iR zz) (hkf9 : kf = if zz = 0 then 0 else 1) (hb64 : b < 2 ^ 64) (hfin : ifz kf ≤ b % (mkz kf + 1)) : c_T l m_Ed_shortest (Cond.code m_Ed_shortest b_Ed_shortest 7 (some .int) :: gw) (rmx_ 7 167) (eX t5 ad) D ecl (tyS cB cI cJ) [.ref x, .long (lN b), .int (iI (zz))] [(x, .inr (1, [.ref dg, .int (iI (zc)), .int (iI (pt)), .int (iI (zl)), .ref q])), (dg, .inl (cB, 1200, .inl g)), (q, .inr (0, [.ref pa, .int (iI (zs))])), (pa, .inl (cI, 306, .inl f))] xAE := by
  intro sz0
  refine vx_ofW (cc := b_Ed_shortest) (maxL := 7) (ret := (some .int)) (by decide) rfl ?_
  intro p e s m args below meth c s₁ B hml htab hv
  obtain ⟨rfl, hsz, hP, hK, hD0, hE⟩ := hv
  have hx := B.exec
  have hb := B.bytes
  have hr := B.returns
  have hts := atoms_spec (ws := Cond.code m_Ed_shortest b_Ed_shortest 7 (some .int) :: gw) B.pre
  have hown : s.vm.findClass R_Ed = some m.cls := findClass_of_methodNamed B.named
  have hlocks := B.notSynchronized
  subst hsz
  have hD := hD0.self (sz := s.heap.size)
  generalize hAe : va_A [(x, .inr (1, [.ref dg, .int (iI (zc)), .int (iI (pt)), .int (iI (zl)), .ref q])), (dg, .inl (cB, 1200, .inl g)), (q, .inr (0, [.ref pa, .int (iI (zs))])), (pa, .inl (cI, 306, .inl f))] s.heap.size = A at hD hE ⊢
  have hA : ∀ q : Nat, s.heap.size ≤ q → A q := fun q h => by rw [← hAe]; exact Or.inr h
  have hS : va_S A s.heap s.heap [] := va_S.rf
  have hl := lv_entry ([.ref x, .long (lN b), .int (iI (zz))]) (n := 7) (Nat.le_of_ble_eq_true rfl)
  rw [lg_entry_eq]
  generalize (lg_sl ([.ref x, .long (lN b), .int (iI (zz))]) ++ List.replicate (7 - (lg_sl ([.ref x, .long (lN b), .int (iI (zz))])).length) Slot.unset).toArray = ls at hl ⊢
  have hl : lv_has ls 7 [(0, .ref x), (1, .long (lN b)), (3, .int (iI (zz)))] := hl
  have hkf : kf < 2 := by rw [hkf9]; split <;> omega
  refine lv_iload_n hx hb d_Ed_shortest_0 rfl (lv_at hl 2 rfl) ?_
  refine c_fr (ra := ad kf) (va_runS (As := [.int (iI (zz))]) (rest := []) ⟨hx, hb, hml, hown, hts⟩ (c_Ed_formatOf l D cB cI cJ t5 ad zz kf hzz hkf9 s.heap.size) (va_cwS 1 hts (gS tw_103 tw_104 tw_1 tw_105) rfl rfl rfl (by decide +kernel) ⟨Nat.le_of_ble_eq_true rfl, Nat.le_of_ble_eq_true rfl⟩) ⟨c_blind (eX_X t5 ad), fun U hU hW => c_pre (wc := []) (eX_X t5 ad) hE hK hP hD hS hA [] rfl (by decide) U hU hW⟩ rfl rfl hl.1 rfl (lv_room (Nat.le_of_ble_eq_true rfl)) d_Ed_shortest_1 ⟨Nat.le_of_ble_eq_true rfl, Nat.le_of_ble_eq_true rfl⟩) hP hD hS hA [0, 1, 2, 3] rfl (by decide) (fun H locs hP hD hS => ?_)
  have hP : va_P D ecl [(x, .inr (1, [.ref dg, .int (iI (zc)), .int (iI (pt)), .int (iI (zl)), .ref q])), (dg, .inl (cB, 1200, .inl g)), (q, .inr (0, [.ref pa, .int (iI (zs))])), (pa, .inl (cI, 306, .inl f))] H := hP
  have hD : va_D A [(x, .inr (1, [.ref dg, .int (iI (zc)), .int (iI (pt)), .int (iI (zl)), .ref q])), (dg, .inl (cB, 1200, .inl g)), (q, .inr (0, [.ref pa, .int (iI (zs))])), (pa, .inl (cI, 306, .inl f))] := hD
  refine lv_astore hx hb d_Ed_shortest_4 hl (by decide) rfl (fun ls hl => ?_)
  have hl : lv_has ls 7 [(4, .ref (ad kf)), (0, .ref x), (1, .long (lN b)), (3, .int (iI (zz)))] := hl
  refine lv_lload_n hx hb d_Ed_shortest_6 rfl (lv_at hl 2 rfl) ?_
  refine lv_aload hx hb d_Ed_shortest_7 (lv_at hl 0 rfl) ?_
  exact c_thr (vx_runS (As := [.long (lN b), .ref (ad kf)]) (rest := []) ⟨hx, hb, hml, hown, hts⟩ (c_Ed_finiteSize_no l hl0 D cB cI cJ t5 ad kf b hkf hb64 hfin H.size) (va_cwS 2 hts (gS tw_163 tw_164 tw_1 tw_165) rfl rfl rfl (by decide +kernel) ⟨Nat.le_of_ble_eq_true rfl, Nat.le_of_ble_eq_true rfl⟩) ⟨c_blind (eX_X t5 ad), fun U hU hW => c_pre (wc := []) (eX_X t5 ad) hE hK hP hD hS hA [] rfl (by decide) U hU hW⟩ rfl rfl hl.1 rfl (lv_room (Nat.le_of_ble_eq_true rfl)) d_Ed_shortest_9 ⟨Nat.le_of_ble_eq_true rfl, Nat.le_of_ble_eq_true rfl⟩) hP hD hS hA htab hlocks (Nat.le_of_ble_eq_true rfl) (Nat.le_of_ble_eq_true rfl)
end
section
set_option maxHeartbeats 4000000 in
set_option maxRecDepth 100000 in
theorem c_Ed_shortest (l : Launch) (D : va_G) (cB cI cJ : ClassId) (t5 : Nat) (ad : Nat → Nat) (x dg q pa : Nat) (g f : Nat → Int32) (zs zc pt zl zz : Int) (kf b : Nat) (hzz : iR zz) (hkf9 : kf = if zz = 0 then 0 else 1) (hb64 : b < 2 ^ 64) (y : Nat) (hyb : y = b % (mkz kf + 1)) (hy : y < ifz kf) : c_I l m_Ed_shortest (Cond.code m_Ed_shortest b_Ed_shortest 7 (some .int) :: gw) (rm_ 7 167) (eX t5 ad) D ecl (tyS cB cI cJ) [.ref x, .long (lN b), .int (iI (zz))] [(x, .inr (1, [.ref dg, .int (iI (zc)), .int (iI (pt)), .int (iI (zl)), .ref q])), (dg, .inl (cB, 1200, .inl g)), (q, .inr (0, [.ref pa, .int (iI (zs))])), (pa, .inl (cI, 306, .inl f))] (fun r u => ∃ (f' : Nat → Int32) (zs' : Int), (∃ (n v : Nat) (g' : Nat → Int32), 2 ≤ n ∧ n < dl (rz (exV kf y)) ∧ (∀ j, 2 ≤ j → j < n → NBno (rz (exV kf y)) j ((if y = 0 then 0 else ((dl (exV kf y) : Nat) : Int) + min (lez kf + ((exE kf y : Nat) : Int)) 0) - (j : Int)) kf y) ∧ NBR (rz (exV kf y)) n ((if y = 0 then 0 else ((dl (exV kf y) : Nat) : Int) + min (lez kf + ((exE kf y : Nat) : Int)) 0) - (n : Int)) kf y v ∧ nm_ok g' (gvD v) ∧ r = iI ((dl (gvD v) : Nat) : Int) ∧ u = [(x, .inr (1, [.ref dg, .int (iI (((dl (gvD v) : Nat) : Int))), .int (iI (if v = 0 then 0 else ((dl v : Nat) : Int) + ((if y = 0 then 0 else ((dl (exV kf y) : Nat) : Int) + min (lez kf + ((exE kf y : Nat) : Int)) 0) - (n : Int)))), .int (iI (hdb v (((dl v : Nat) : Int) - 1200))), .ref q])), (dg, .inl (cB, 1200, .inl g')), (q, .inr (0, [.ref pa, .int (iI (zs'))])), (pa, .inl (cI, 306, .inl f'))]) ∨ ((∀ j, 2 ≤ j → j < dl (rz (exV kf y)) → NBno (rz (exV kf y)) j ((if y = 0 then 0 else ((dl (exV kf y) : Nat) : Int) + min (lez kf + ((exE kf y : Nat) : Int)) 0) - (j : Int)) kf y) ∧ r = iI ((dl (rz (exV kf y)) : Nat) : Int) ∧ ∃ g' : Nat → Int32, nm_ok g' (rz (exV kf y)) ∧ u = [(x, .inr (1, [.ref dg, .int (iI (((dl (rz (exV kf y)) : Nat) : Int))), .int (iI (if y = 0 then 0 else ((dl (exV kf y) : Nat) : Int) + min (lez kf + ((exE kf y : Nat) : Int)) 0)), .int (iI (0)), .ref q])), (dg, .inl (cB, 1200, .inl g')), (q, .inr (0, [.ref pa, .int (iI (zs'))])), (pa, .inl (cI, 306, .inl f'))])) 0 0 := by
  intro sz0
  refine Met.ofW (cc := b_Ed_shortest) (maxL := 7) (ret := (some .int)) (by decide) rfl ?_
  intro p e s m args below meth c s₁ B hml hv
  obtain ⟨rfl, hsz, hP, hK, hD0, hE⟩ := hv
  have hx := B.exec
  have hb := B.bytes
  have hr := B.returns
  have hts := atoms_spec (ws := Cond.code m_Ed_shortest b_Ed_shortest 7 (some .int) :: gw) B.pre
  have hown : s.vm.findClass R_Ed = some m.cls := findClass_of_methodNamed B.named
  have hlocks := B.notSynchronized
  subst hsz
  have hD := hD0.self (sz := s.heap.size)
  generalize hAe : va_A [(x, .inr (1, [.ref dg, .int (iI (zc)), .int (iI (pt)), .int (iI (zl)), .ref q])), (dg, .inl (cB, 1200, .inl g)), (q, .inr (0, [.ref pa, .int (iI (zs))])), (pa, .inl (cI, 306, .inl f))] s.heap.size = A at hD hE ⊢
  have hA : ∀ q : Nat, s.heap.size ≤ q → A q := fun q h => by rw [← hAe]; exact Or.inr h
  have hS : va_S A s.heap s.heap [] := va_S.rf
  have hl := lv_entry ([.ref x, .long (lN b), .int (iI (zz))]) (n := 7) (Nat.le_of_ble_eq_true rfl)
  rw [lg_entry_eq]
  generalize (lg_sl ([.ref x, .long (lN b), .int (iI (zz))]) ++ List.replicate (7 - (lg_sl ([.ref x, .long (lN b), .int (iI (zz))])).length) Slot.unset).toArray = ls at hl ⊢
  have hl : lv_has ls 7 [(0, .ref x), (1, .long (lN b)), (3, .int (iI (zz)))] := hl
  have hkf : kf < 2 := by rw [hkf9]; split <;> omega
  have hfz := fz_all kf hkf
  have hVd := ex_dl hkf hy
  have hee := ex_e hkf hy
  have hPr : -1000000 ≤ (if y = 0 then 0 else ((dl (exV kf y) : Nat) : Int) + min (lez kf + ((exE kf y : Nat) : Int)) 0) ∧ (if y = 0 then 0 else ((dl (exV kf y) : Nat) : Int) + min (lez kf + ((exE kf y : Nat) : Int)) 0) ≤ 1000000 := by split <;> omega
  have hxa : (rz (exV kf y)) = 0 ∨ EXA (rz (exV kf y)) (if y = 0 then 0 else ((dl (exV kf y) : Nat) : Int) + min (lez kf + ((exE kf y : Nat) : Int)) 0) kf (exE kf y) (sgz kf y) := by
    rcases Nat.eq_zero_or_pos y with z | z
    · left; unfold exV; rw [ex_0.mpr z, Nat.zero_mul, rz_0]
    · right; rw [if_neg (by omega)]; exact ex_exa hkf hy z
  refine lv_iload_n hx hb d_Ed_shortest_0 rfl (lv_at hl 2 rfl) ?_
  refine c_fr (ra := ad kf) (va_runS (As := [.int (iI (zz))]) (rest := []) ⟨hx, hb, hml, hown, hts⟩ (c_Ed_formatOf l D cB cI cJ t5 ad zz kf hzz hkf9 s.heap.size) (va_cwS 1 hts (gS tw_103 tw_104 tw_1 tw_105) rfl rfl rfl (by decide +kernel) ⟨Nat.le_of_ble_eq_true rfl, Nat.le_of_ble_eq_true rfl⟩) ⟨c_blind (eX_X t5 ad), fun U hU hW => c_pre (wc := []) (eX_X t5 ad) hE hK hP hD hS hA [] rfl (by decide) U hU hW⟩ rfl rfl hl.1 rfl (lv_room (Nat.le_of_ble_eq_true rfl)) d_Ed_shortest_1 ⟨Nat.le_of_ble_eq_true rfl, Nat.le_of_ble_eq_true rfl⟩) hP hD hS hA [0, 1, 2, 3] rfl (by decide) (fun H locs hP hD hS => ?_)
  have hP : va_P D ecl [(x, .inr (1, [.ref dg, .int (iI (zc)), .int (iI (pt)), .int (iI (zl)), .ref q])), (dg, .inl (cB, 1200, .inl g)), (q, .inr (0, [.ref pa, .int (iI (zs))])), (pa, .inl (cI, 306, .inl f))] H := hP
  have hD : va_D A [(x, .inr (1, [.ref dg, .int (iI (zc)), .int (iI (pt)), .int (iI (zl)), .ref q])), (dg, .inl (cB, 1200, .inl g)), (q, .inr (0, [.ref pa, .int (iI (zs))])), (pa, .inl (cI, 306, .inl f))] := hD
  refine lv_astore hx hb d_Ed_shortest_4 hl (by decide) rfl (fun ls hl => ?_)
  have hl : lv_has ls 7 [(4, .ref (ad kf)), (0, .ref x), (1, .long (lN b)), (3, .int (iI (zz)))] := hl
  refine lv_lload_n hx hb d_Ed_shortest_6 rfl (lv_at hl 2 rfl) ?_
  refine lv_aload hx hb d_Ed_shortest_7 (lv_at hl 0 rfl) ?_
  refine c_fl (wc := []) (wr := [(x, .inr (1, [.ref dg, .int (iI (zc)), .int (iI (pt)), .int (iI (zl)), .ref q])), (dg, .inl (cB, 1200, .inl g)), (q, .inr (0, [.ref pa, .int (iI (zs))])), (pa, .inl (cI, 306, .inl f))]) (va_runS (As := [.long (lN b), .ref (ad kf)]) (rest := []) ⟨hx, hb, hml, hown, hts⟩ (c_Ed_finiteSize l D cB cI cJ t5 ad kf b hkf hb64 (by rw [← hyb]; exact hy) H.size) (va_cwS 2 hts (gS tw_163 tw_164 tw_1 tw_165) rfl rfl rfl (by decide +kernel) ⟨Nat.le_of_ble_eq_true rfl, Nat.le_of_ble_eq_true rfl⟩) ⟨c_blind (eX_X t5 ad), fun U hU hW => c_pre (wc := []) (eX_X t5 ad) hE hK hP hD hS hA [] rfl (by decide) U hU hW⟩ rfl rfl hl.1 rfl (lv_room (Nat.le_of_ble_eq_true rfl)) d_Ed_shortest_9 ⟨Nat.le_of_ble_eq_true rfl, Nat.le_of_ble_eq_true rfl⟩) hP hD hS hA [] [0, 1, 2, 3] rfl rfl (by decide) (by decide) (fun r u H locs hp hP hD hS => ?_)
  obtain ⟨rfl, rfl⟩ := hp
  have hP : va_P D ecl [(x, .inr (1, [.ref dg, .int (iI (zc)), .int (iI (pt)), .int (iI (zl)), .ref q])), (dg, .inl (cB, 1200, .inl g)), (q, .inr (0, [.ref pa, .int (iI (zs))])), (pa, .inl (cI, 306, .inl f))] H := hP
  have hD : va_D A [(x, .inr (1, [.ref dg, .int (iI (zc)), .int (iI (pt)), .int (iI (zl)), .ref q])), (dg, .inl (cB, 1200, .inl g)), (q, .inr (0, [.ref pa, .int (iI (zs))])), (pa, .inl (cI, 306, .inl f))] := hD
  refine ed_tj (y := (y : Int)) (by rw [hyb]) ?_
  refine lv_lstore hx hb d_Ed_shortest_12 hl (by decide) rfl (fun ls hl => ?_)
  have hl : lv_has ls 7 [(5, .long (jI ((y : Int)))), (4, .ref (ad kf)), (0, .ref x), (1, .long (lN b)), (3, .int (iI (zz)))] := hl
  refine ed_pc (pc' := 14) rfl ?_
  refine lv_aload_n hx hb d_Ed_shortest_14 rfl (lv_at hl 2 rfl) ?_
  refine lv_lload hx hb d_Ed_shortest_15 (lv_at hl 0 rfl) ?_
  refine lv_aload hx hb d_Ed_shortest_17 (lv_at hl 1 rfl) ?_
  refine c_fv (wc := [(x, .inr (1, [.ref dg, .int (iI (zc)), .int (iI (pt)), .int (iI (zl)), .ref q])), (dg, .inl (cB, 1200, .inl g)), (q, .inr (0, [.ref pa, .int (iI (zs))])), (pa, .inl (cI, 306, .inl f))]) (wr := []) (va_runV (C := "ExactDigits") (As := [.long (jI ((y : Int))), .ref (ad kf)]) (rest := []) ⟨hx, hb, hml, hown, hts⟩ (c_Ed_giveExact l D cB cI cJ t5 ad x dg q pa g f zs zc pt zl kf y hkf hy H.size) (cwV 2 hts (gV tw_232 tw_234 ts_6 tw_1 tw_235) rfl rfl rfl (by decide +kernel) ⟨Nat.le_of_ble_eq_true rfl, Nat.le_of_ble_eq_true rfl⟩) ⟨c_blind (eX_X t5 ad), va_recv (ci := 1) (q0 := 0) hK hP rfl rfl, fun U hU hW => c_pre (wc := [(x, .inr (1, [.ref dg, .int (iI (zc)), .int (iI (pt)), .int (iI (zl)), .ref q])), (dg, .inl (cB, 1200, .inl g)), (q, .inr (0, [.ref pa, .int (iI (zs))])), (pa, .inl (cI, 306, .inl f))]) (eX_X t5 ad) hE hK hP hD hS hA [0, 1, 2, 3] rfl (by decide) U hU hW⟩ rfl rfl hl.1 rfl (lv_room (Nat.le_of_ble_eq_true rfl)) d_Ed_shortest_19 ⟨Nat.le_of_ble_eq_true rfl, Nat.le_of_ble_eq_true rfl⟩) hP hD hS hA [0, 1, 2, 3] [] rfl rfl (by decide) (by decide) (fun u H locs hp hP hD hS => ?_)
  obtain ⟨g6, f6, zs6, hnm6, rfl⟩ := hp
  have hP : va_P D ecl [(x, .inr (1, [.ref dg, .int (iI (((dl (rz (exV kf y)) : Nat) : Int))), .int (iI (if y = 0 then 0 else ((dl (exV kf y) : Nat) : Int) + min (lez kf + ((exE kf y : Nat) : Int)) 0)), .int (iI (0)), .ref q])), (dg, .inl (cB, 1200, .inl g6)), (q, .inr (0, [.ref pa, .int (iI (zs6))])), (pa, .inl (cI, 306, .inl f6))] H := hP
  have hD : va_D A [(x, .inr (1, [.ref dg, .int (iI (((dl (rz (exV kf y)) : Nat) : Int))), .int (iI (if y = 0 then 0 else ((dl (exV kf y) : Nat) : Int) + min (lez kf + ((exE kf y : Nat) : Int)) 0)), .int (iI (0)), .ref q])), (dg, .inl (cB, 1200, .inl g6)), (q, .inr (0, [.ref pa, .int (iI (zs6))])), (pa, .inl (cI, 306, .inl f6))] := hD
  refine lv_aload_n hx hb d_Ed_shortest_22 rfl (lv_at hl 2 rfl) ?_
  refine lv_lload hx hb d_Ed_shortest_23 (lv_at hl 0 rfl) ?_
  refine lv_aload hx hb d_Ed_shortest_25 (lv_at hl 1 rfl) ?_
  refine c_fv (wc := [(x, .inr (1, [.ref dg, .int (iI (((dl (rz (exV kf y)) : Nat) : Int))), .int (iI (if y = 0 then 0 else ((dl (exV kf y) : Nat) : Int) + min (lez kf + ((exE kf y : Nat) : Int)) 0)), .int (iI (0)), .ref q])), (dg, .inl (cB, 1200, .inl g6)), (q, .inr (0, [.ref pa, .int (iI (zs6))])), (pa, .inl (cI, 306, .inl f6))]) (wr := []) (va_runV (C := "ExactDigits") (As := [.long (jI ((y : Int))), .ref (ad kf)]) (rest := []) ⟨hx, hb, hml, hown, hts⟩ (c_Ed_shorten l D cB cI cJ t5 ad x dg q pa g6 f6 zs6 (if y = 0 then 0 else ((dl (exV kf y) : Nat) : Int) + min (lez kf + ((exE kf y : Nat) : Int)) 0) 0 (rz (exV kf y)) kf y (exE kf y) (sgz kf y) hkf hnm6 (ex_s kf y) hxa hPr H.size) (cwV 2 hts (gV tw_251 tw_253 ts_7 tw_1 tw_254) rfl rfl rfl (by decide +kernel) ⟨Nat.le_of_ble_eq_true rfl, Nat.le_of_ble_eq_true rfl⟩) ⟨c_blind (eX_X t5 ad), va_recv (ci := 1) (q0 := 0) hK hP rfl rfl, fun U hU hW => c_pre (wc := [(x, .inr (1, [.ref dg, .int (iI (((dl (rz (exV kf y)) : Nat) : Int))), .int (iI (if y = 0 then 0 else ((dl (exV kf y) : Nat) : Int) + min (lez kf + ((exE kf y : Nat) : Int)) 0)), .int (iI (0)), .ref q])), (dg, .inl (cB, 1200, .inl g6)), (q, .inr (0, [.ref pa, .int (iI (zs6))])), (pa, .inl (cI, 306, .inl f6))]) (eX_X t5 ad) hE hK hP hD hS hA [0, 1, 2, 3] rfl (by decide) U hU hW⟩ rfl rfl hl.1 rfl (lv_room (Nat.le_of_ble_eq_true rfl)) d_Ed_shortest_27 ⟨Nat.le_of_ble_eq_true rfl, Nat.le_of_ble_eq_true rfl⟩) hP hD hS hA [0, 1, 2, 3] [] rfl rfl (by decide) (by decide) (fun u H locs hp hP hD hS => ?_)
  obtain ⟨f7, zs7, hsh⟩ := hp
  rcases hsh with ⟨n, v, g7, hn2, hnL, hno, hnbr, hnm7, rfl⟩ | ⟨hno, rfl⟩
  · skip
    have hP : va_P D ecl [(x, .inr (1, [.ref dg, .int (iI (((dl (gvD v) : Nat) : Int))), .int (iI (if v = 0 then 0 else ((dl v : Nat) : Int) + ((if y = 0 then 0 else ((dl (exV kf y) : Nat) : Int) + min (lez kf + ((exE kf y : Nat) : Int)) 0) - (n : Int)))), .int (iI (hdb v (((dl v : Nat) : Int) - 1200))), .ref q])), (dg, .inl (cB, 1200, .inl g7)), (q, .inr (0, [.ref pa, .int (iI (zs7))])), (pa, .inl (cI, 306, .inl f7))] H := hP
    have hD : va_D A [(x, .inr (1, [.ref dg, .int (iI (((dl (gvD v) : Nat) : Int))), .int (iI (if v = 0 then 0 else ((dl v : Nat) : Int) + ((if y = 0 then 0 else ((dl (exV kf y) : Nat) : Int) + min (lez kf + ((exE kf y : Nat) : Int)) 0) - (n : Int)))), .int (iI (hdb v (((dl v : Nat) : Int) - 1200))), .ref q])), (dg, .inl (cB, 1200, .inl g7)), (q, .inr (0, [.ref pa, .int (iI (zs7))])), (pa, .inl (cI, 306, .inl f7))] := hD
    refine lv_aload_n hx hb d_Ed_shortest_30 rfl (lv_at hl 2 rfl) ?_
    refine ed_pc (pc' := 31) rfl ?_
    refine va_get (D := D) (ci := 1) (v := .int (iI (((dl (gvD v) : Nat) : Int)))) (C := R_Ed) (T := T_Ed) (N := 5) hx hb hts (fun w h => List.mem_cons_of_mem _ (in_Ed w h)) hown hK hP 0 rfl rfl 1 (by decide) (hts _ (List.mem_cons_of_mem _ tw_41)) (fun _ h9 => h9) rfl d_Ed_shortest_31 ?_
    exact W.iret (v := (iI (((dl (gvD v) : Nat) : Int)))) hx hb hr (fun t9 ht9 hW9 => ⟨⟨(iI (((dl (gvD v) : Nat) : Int))), [(x, .inr (1, [.ref dg, .int (iI (((dl (gvD v) : Nat) : Int))), .int (iI (if v = 0 then 0 else ((dl v : Nat) : Int) + ((if y = 0 then 0 else ((dl (exV kf y) : Nat) : Int) + min (lez kf + ((exE kf y : Nat) : Int)) 0) - (n : Int)))), .int (iI (hdb v (((dl v : Nat) : Int) - 1200))), .ref q])), (dg, .inl (cB, 1200, .inl g7)), (q, .inr (0, [.ref pa, .int (iI (zs7))])), (pa, .inl (cI, 306, .inl f7))], rfl, ⟨f7, zs7, Or.inl ⟨n, v, g7, hn2, hnL, hno, hnbr, hnm7, rfl, rfl⟩⟩, by rw [ht9]; exact hP, hD⟩, hS.F ht9⟩) hS.2.2 d_Ed_shortest_34
  · skip
    have hP : va_P D ecl [(x, .inr (1, [.ref dg, .int (iI (((dl (rz (exV kf y)) : Nat) : Int))), .int (iI (if y = 0 then 0 else ((dl (exV kf y) : Nat) : Int) + min (lez kf + ((exE kf y : Nat) : Int)) 0)), .int (iI (0)), .ref q])), (dg, .inl (cB, 1200, .inl g6)), (q, .inr (0, [.ref pa, .int (iI (zs7))])), (pa, .inl (cI, 306, .inl f7))] H := hP
    have hD : va_D A [(x, .inr (1, [.ref dg, .int (iI (((dl (rz (exV kf y)) : Nat) : Int))), .int (iI (if y = 0 then 0 else ((dl (exV kf y) : Nat) : Int) + min (lez kf + ((exE kf y : Nat) : Int)) 0)), .int (iI (0)), .ref q])), (dg, .inl (cB, 1200, .inl g6)), (q, .inr (0, [.ref pa, .int (iI (zs7))])), (pa, .inl (cI, 306, .inl f7))] := hD
    refine lv_aload_n hx hb d_Ed_shortest_30 rfl (lv_at hl 2 rfl) ?_
    refine ed_pc (pc' := 31) rfl ?_
    refine va_get (D := D) (ci := 1) (v := .int (iI (((dl (rz (exV kf y)) : Nat) : Int)))) (C := R_Ed) (T := T_Ed) (N := 5) hx hb hts (fun w h => List.mem_cons_of_mem _ (in_Ed w h)) hown hK hP 0 rfl rfl 1 (by decide) (hts _ (List.mem_cons_of_mem _ tw_41)) (fun _ h9 => h9) rfl d_Ed_shortest_31 ?_
    exact W.iret (v := (iI (((dl (rz (exV kf y)) : Nat) : Int)))) hx hb hr (fun t9 ht9 hW9 => ⟨⟨(iI (((dl (rz (exV kf y)) : Nat) : Int))), [(x, .inr (1, [.ref dg, .int (iI (((dl (rz (exV kf y)) : Nat) : Int))), .int (iI (if y = 0 then 0 else ((dl (exV kf y) : Nat) : Int) + min (lez kf + ((exE kf y : Nat) : Int)) 0)), .int (iI (0)), .ref q])), (dg, .inl (cB, 1200, .inl g6)), (q, .inr (0, [.ref pa, .int (iI (zs7))])), (pa, .inl (cI, 306, .inl f7))], rfl, ⟨f7, zs7, Or.inr ⟨hno, rfl, g6, hnm6, rfl⟩⟩, by rw [ht9]; exact hP, hD⟩, hS.F ht9⟩) hS.2.2 d_Ed_shortest_34
set_option maxHeartbeats 4000000 in
set_option maxRecDepth 100000 in
theorem c_Ed_nearest (l : Launch) (D : va_G) (cB cI cJ : ClassId) (t5 : Nat) (ad : Nat → Nat) (x dg q pa : Nat) (g f : Nat → Int32) (zs pt zl zz : Int) (X kf : Nat) (hzz : iR zz) (hkf9 : kf = if zz = 0 then 0 else 1) (hnm : nm_ok g X) (hpt : -9000000 ≤ pt ∧ pt ≤ 9000000) (hzl : zl = 0 ∨ zl = 1) : c_L l m_Ed_nearest (Cond.code m_Ed_nearest b_Ed_nearest 2 (some .long) :: gw) (rm_ 3 84) (eX t5 ad) D ecl (tyS cB cI cJ) [.ref x, .int (iI (zz))] [(x, .inr (1, [.ref dg, .int (iI (((dl X : Nat) : Int))), .int (iI (pt)), .int (iI (zl)), .ref q])), (dg, .inl (cB, 1200, .inl g)), (q, .inr (0, [.ref pa, .int (iI (zs))])), (pa, .inl (cI, 306, .inl f))] (fun r u => (∃ rn : Nat, r = jI (rn : Int) ∧ NR (fbz kf + 1) (ifz kf) (nP X (pt - ((dl X : Nat) : Int)) kf) (nM (pt - ((dl X : Nat) : Int))) (zl = 1) rn) ∧ ∃ (f' : Nat → Int32) (zs' : Int), u = [(x, .inr (1, [.ref dg, .int (iI (((dl X : Nat) : Int))), .int (iI (pt)), .int (iI (zl)), .ref q])), (dg, .inl (cB, 1200, .inl g)), (q, .inr (0, [.ref pa, .int (iI (zs'))])), (pa, .inl (cI, 306, .inl f'))]) 0 0 := by
  intro sz0
  refine Met.ofW (cc := b_Ed_nearest) (maxL := 2) (ret := (some .long)) (by decide) rfl ?_
  intro p e s m args below meth c s₁ B hml hv
  obtain ⟨rfl, hsz, hP, hK, hD0, hE⟩ := hv
  have hx := B.exec
  have hb := B.bytes
  have hr := B.returns
  have hts := atoms_spec (ws := Cond.code m_Ed_nearest b_Ed_nearest 2 (some .long) :: gw) B.pre
  have hown : s.vm.findClass R_Ed = some m.cls := findClass_of_methodNamed B.named
  have hlocks := B.notSynchronized
  subst hsz
  have hD := hD0.self (sz := s.heap.size)
  generalize hAe : va_A [(x, .inr (1, [.ref dg, .int (iI (((dl X : Nat) : Int))), .int (iI (pt)), .int (iI (zl)), .ref q])), (dg, .inl (cB, 1200, .inl g)), (q, .inr (0, [.ref pa, .int (iI (zs))])), (pa, .inl (cI, 306, .inl f))] s.heap.size = A at hD hE ⊢
  have hA : ∀ q : Nat, s.heap.size ≤ q → A q := fun q h => by rw [← hAe]; exact Or.inr h
  have hS : va_S A s.heap s.heap [] := va_S.rf
  have hl := lv_entry ([.ref x, .int (iI (zz))]) (n := 2) (Nat.le_of_ble_eq_true rfl)
  rw [lg_entry_eq]
  generalize (lg_sl ([.ref x, .int (iI (zz))]) ++ List.replicate (2 - (lg_sl ([.ref x, .int (iI (zz))])).length) Slot.unset).toArray = ls at hl ⊢
  have hl : lv_has ls 2 [(0, .ref x), (1, .int (iI (zz)))] := hl
  have hkf : kf < 2 := by rw [hkf9]; split <;> omega
  have hX12 := hnm.1
  refine lv_aload_n hx hb d_Ed_nearest_0 rfl (lv_at hl 0 rfl) ?_
  refine va_get (D := D) (ci := 1) (v := .ref q) (C := R_Ed) (T := T_Ed) (N := 5) hx hb hts (fun w h => List.mem_cons_of_mem _ (in_Ed w h)) hown hK hP 0 rfl rfl 4 (by decide) (hts _ (List.mem_cons_of_mem _ tw_44)) (fun _ h9 => h9) rfl d_Ed_nearest_1 ?_
  refine lv_aload_n hx hb d_Ed_nearest_4 rfl (lv_at hl 0 rfl) ?_
  refine va_get (D := D) (ci := 1) (v := .ref dg) (C := R_Ed) (T := T_Ed) (N := 5) hx hb hts (fun w h => List.mem_cons_of_mem _ (in_Ed w h)) hown hK hP 0 rfl rfl 0 (by decide) (hts _ (List.mem_cons_of_mem _ tw_40)) (fun _ h9 => h9) rfl d_Ed_nearest_5 ?_
  refine lv_aload_n hx hb d_Ed_nearest_8 rfl (lv_at hl 0 rfl) ?_
  refine va_get (D := D) (ci := 1) (v := .int (iI (((dl X : Nat) : Int)))) (C := R_Ed) (T := T_Ed) (N := 5) hx hb hts (fun w h => List.mem_cons_of_mem _ (in_Ed w h)) hown hK hP 0 rfl rfl 1 (by decide) (hts _ (List.mem_cons_of_mem _ tw_41)) (fun _ h9 => h9) rfl d_Ed_nearest_9 ?_
  refine c_fv (wc := [(q, .inr (0, [.ref pa, .int (iI (zs))])), (pa, .inl (cI, 306, .inl f)), (dg, .inl (cB, 1200, .inl g))]) (wr := [(x, .inr (1, [.ref dg, .int (iI (((dl X : Nat) : Int))), .int (iI (pt)), .int (iI (zl)), .ref q]))]) (va_runV (C := "ExactDigits$Natural") (As := [.ref dg, .int (iI (((dl X : Nat) : Int)))]) (rest := []) ⟨hx, hb, hml, hown, hts⟩ (c_Na_setDigits l D cB cI cJ t5 ad q pa dg f g zs (dl X) X hX12 (dl_lt X) (fun z => dl_le (by rcases Nat.eq_zero_or_pos X with y | y; rw [y, dl_0] at z; omega; exact y)) hnm.2.2 s.heap.size) (cwV 2 hts (gV tw_99 tw_100 tw_101 tw_2 tw_102) rfl rfl rfl (by decide +kernel) ⟨Nat.le_of_ble_eq_true rfl, Nat.le_of_ble_eq_true rfl⟩) ⟨c_blind (eX_X t5 ad), va_recv (ci := 0) (q0 := 2) hK hP rfl rfl, fun U hU hW => c_pre (wc := [(q, .inr (0, [.ref pa, .int (iI (zs))])), (pa, .inl (cI, 306, .inl f)), (dg, .inl (cB, 1200, .inl g))]) (eX_X t5 ad) hE hK hP hD hS hA [2, 3, 1] rfl (by decide) U hU hW⟩ rfl rfl hl.1 rfl (lv_room (Nat.le_of_ble_eq_true rfl)) d_Ed_nearest_12 ⟨Nat.le_of_ble_eq_true rfl, Nat.le_of_ble_eq_true rfl⟩) hP hD hS hA [2, 3, 1] [0] rfl rfl (by decide) (by decide) (fun u H locs hp hP hD hS => ?_)
  obtain ⟨f2, s2, rfl, hok⟩ := hp
  have hP : va_P D ecl [(x, .inr (1, [.ref dg, .int (iI (((dl X : Nat) : Int))), .int (iI (pt)), .int (iI (zl)), .ref q])), (q, .inr (0, [.ref pa, .int (iI ((s2 : Int)))])), (pa, .inl (cI, 306, .inl f2)), (dg, .inl (cB, 1200, .inl g))] H := hP
  have hD : va_D A [(x, .inr (1, [.ref dg, .int (iI (((dl X : Nat) : Int))), .int (iI (pt)), .int (iI (zl)), .ref q])), (q, .inr (0, [.ref pa, .int (iI ((s2 : Int)))])), (pa, .inl (cI, 306, .inl f2)), (dg, .inl (cB, 1200, .inl g))] := hD
  refine ed_pc (pc' := 15) rfl ?_
  refine lv_aload_n hx hb d_Ed_nearest_15 rfl (lv_at hl 0 rfl) ?_
  refine lv_aload_n hx hb d_Ed_nearest_16 rfl (lv_at hl 0 rfl) ?_
  refine va_get (D := D) (ci := 1) (v := .int (iI (pt))) (C := R_Ed) (T := T_Ed) (N := 5) hx hb hts (fun w h => List.mem_cons_of_mem _ (in_Ed w h)) hown hK hP 0 rfl rfl 2 (by decide) (hts _ (List.mem_cons_of_mem _ tw_42)) (fun _ h9 => h9) rfl d_Ed_nearest_17 ?_
  refine lv_aload_n hx hb d_Ed_nearest_20 rfl (lv_at hl 0 rfl) ?_
  refine va_get (D := D) (ci := 1) (v := .int (iI (((dl X : Nat) : Int)))) (C := R_Ed) (T := T_Ed) (N := 5) hx hb hts (fun w h => List.mem_cons_of_mem _ (in_Ed w h)) hown hK hP 0 rfl rfl 1 (by decide) (hts _ (List.mem_cons_of_mem _ tw_41)) (fun _ h9 => h9) rfl d_Ed_nearest_21 ?_
  refine ed_isub hx hb d_Ed_nearest_24 ?_
  refine lv_aload_n hx hb d_Ed_nearest_25 rfl (lv_at hl 0 rfl) ?_
  refine va_get (D := D) (ci := 1) (v := .int (iI (zl))) (C := R_Ed) (T := T_Ed) (N := 5) hx hb hts (fun w h => List.mem_cons_of_mem _ (in_Ed w h)) hown hK hP 0 rfl rfl 3 (by decide) (hts _ (List.mem_cons_of_mem _ tw_43)) (fun _ h9 => h9) rfl d_Ed_nearest_26 ?_
  refine ed_pc (pc' := 29) rfl ?_
  refine lv_iload_n hx hb d_Ed_nearest_29 rfl (lv_at hl 1 rfl) ?_
  refine c_fr (ra := ad kf) (va_runS (As := [.int (iI (zz))]) (rest := [.int (iI (zl)), .int (iI ((pt) - (((dl X : Nat) : Int)))), .ref x]) ⟨hx, hb, hml, hown, hts⟩ (c_Ed_formatOf l D cB cI cJ t5 ad zz kf hzz hkf9 H.size) (va_cwS 1 hts (gS tw_103 tw_104 tw_1 tw_105) rfl rfl rfl (by decide +kernel) ⟨Nat.le_of_ble_eq_true rfl, Nat.le_of_ble_eq_true rfl⟩) ⟨c_blind (eX_X t5 ad), fun U hU hW => c_pre (wc := []) (eX_X t5 ad) hE hK hP hD hS hA [] rfl (by decide) U hU hW⟩ rfl rfl hl.1 rfl (lv_room (Nat.le_of_ble_eq_true rfl)) d_Ed_nearest_30 ⟨Nat.le_of_ble_eq_true rfl, Nat.le_of_ble_eq_true rfl⟩) hP hD hS hA [0, 1, 2, 3] rfl (by decide) (fun H locs hP hD hS => ?_)
  have hP : va_P D ecl [(x, .inr (1, [.ref dg, .int (iI (((dl X : Nat) : Int))), .int (iI (pt)), .int (iI (zl)), .ref q])), (q, .inr (0, [.ref pa, .int (iI ((s2 : Int)))])), (pa, .inl (cI, 306, .inl f2)), (dg, .inl (cB, 1200, .inl g))] H := hP
  have hD : va_D A [(x, .inr (1, [.ref dg, .int (iI (((dl X : Nat) : Int))), .int (iI (pt)), .int (iI (zl)), .ref q])), (q, .inr (0, [.ref pa, .int (iI ((s2 : Int)))])), (pa, .inl (cI, 306, .inl f2)), (dg, .inl (cB, 1200, .inl g))] := hD
  refine c_fl (wc := [(x, .inr (1, [.ref dg, .int (iI (((dl X : Nat) : Int))), .int (iI (pt)), .int (iI (zl)), .ref q])), (dg, .inl (cB, 1200, .inl g)), (q, .inr (0, [.ref pa, .int (iI ((s2 : Int)))])), (pa, .inl (cI, 306, .inl f2))]) (wr := []) (va_runV (C := "ExactDigits") (As := [.int (iI ((pt) - (((dl X : Nat) : Int)))), .int (iI (zl)), .ref (ad kf)]) (rest := []) ⟨hx, hb, hml, hown, hts⟩ (c_Ed_nearestToScratch l D cB cI cJ t5 ad x dg q pa g f2 s2 X kf ((dl X : Nat) : Int) pt zl (pt - ((dl X : Nat) : Int)) zl hkf hok hX12 (by omega) hzl H.size) (cwV 3 hts (gV tw_110 tw_112 ts_2 tw_1 tw_113) rfl rfl rfl (by decide +kernel) ⟨Nat.le_of_ble_eq_true rfl, Nat.le_of_ble_eq_true rfl⟩) ⟨c_blind (eX_X t5 ad), va_recv (ci := 1) (q0 := 0) hK hP rfl rfl, fun U hU hW => c_pre (wc := [(x, .inr (1, [.ref dg, .int (iI (((dl X : Nat) : Int))), .int (iI (pt)), .int (iI (zl)), .ref q])), (dg, .inl (cB, 1200, .inl g)), (q, .inr (0, [.ref pa, .int (iI ((s2 : Int)))])), (pa, .inl (cI, 306, .inl f2))]) (eX_X t5 ad) hE hK hP hD hS hA [0, 3, 1, 2] rfl (by decide) U hU hW⟩ rfl rfl hl.1 rfl (lv_room (Nat.le_of_ble_eq_true rfl)) d_Ed_nearest_33 ⟨Nat.le_of_ble_eq_true rfl, Nat.le_of_ble_eq_true rfl⟩) hP hD hS hA [0, 3, 1, 2] [] rfl rfl (by decide) (by decide) (fun r u H locs hp hP hD hS => ?_)
  obtain ⟨⟨rn, rfl, hNR⟩, f3, zs3, rfl⟩ := hp
  have hP : va_P D ecl [(x, .inr (1, [.ref dg, .int (iI (((dl X : Nat) : Int))), .int (iI (pt)), .int (iI (zl)), .ref q])), (dg, .inl (cB, 1200, .inl g)), (q, .inr (0, [.ref pa, .int (iI (zs3))])), (pa, .inl (cI, 306, .inl f3))] H := hP
  have hD : va_D A [(x, .inr (1, [.ref dg, .int (iI (((dl X : Nat) : Int))), .int (iI (pt)), .int (iI (zl)), .ref q])), (dg, .inl (cB, 1200, .inl g)), (q, .inr (0, [.ref pa, .int (iI (zs3))])), (pa, .inl (cI, 306, .inl f3))] := hD
  exact W.lret (v := (jI ((rn : Int)))) hx hb hr (fun t9 ht9 hW9 => ⟨⟨(jI ((rn : Int))), [(x, .inr (1, [.ref dg, .int (iI (((dl X : Nat) : Int))), .int (iI (pt)), .int (iI (zl)), .ref q])), (dg, .inl (cB, 1200, .inl g)), (q, .inr (0, [.ref pa, .int (iI (zs3))])), (pa, .inl (cI, 306, .inl f3))], rfl, ⟨⟨rn, rfl, hNR⟩, f3, zs3, rfl⟩, by rw [ht9]; exact hP, hD⟩, hS.F ht9⟩) hS.2.2 d_Ed_nearest_36
end
