section
/-! Int32 and Int64 by their numbers: iI z, jI z; rows of the kit said of them -/
def iI (z : Int) : Int32 := Int32.ofInt z
def jI (z : Int) : Int64 := Int64.ofInt z
abbrev iR (z : Int) : Prop := -2147483648 ≤ z ∧ z < 2147483648
abbrev jR (z : Int) : Prop := -9223372036854775808 ≤ z ∧ z < 9223372036854775808
theorem iI_add (a b : Int) : iI a + iI b = iI (a + b) := (Int32.ofInt_add a b).symm
theorem iI_sub (a b : Int) : iI a - iI b = iI (a - b) := (Int32.ofInt_sub a b).symm
theorem iI_mul (a b : Int) : iI a * iI b = iI (a * b) := (Int32.ofInt_mul a b).symm
theorem iI_neg (a : Int) : -iI a = iI (-a) := (Int32.ofInt_neg a).symm
theorem jI_add (a b : Int) : jI a + jI b = jI (a + b) := (Int64.ofInt_add a b).symm
theorem jI_sub (a b : Int) : jI a - jI b = jI (a - b) := (Int64.ofInt_sub a b).symm
theorem jI_mul (a b : Int) : jI a * jI b = jI (a * b) := (Int64.ofInt_mul a b).symm
theorem iI_toInt {z : Int} (h : iR z) : (iI z).toInt = z := Int32.toInt_ofInt_of_le (by have := h.1; omega) (by have := h.2; omega)
theorem jI_toInt {z : Int} (h : jR z) : (jI z).toInt = z := Int64.toInt_ofInt_of_le (by have := h.1; omega) (by have := h.2; omega)
theorem iI_of (x : Int32) : ∃ z : Int, iR z ∧ x = iI z := ⟨x.toInt, ⟨by have := x.le_toInt; omega, by have := x.toInt_lt; omega⟩, (Int32.ofInt_toInt x).symm⟩
theorem jI_of (x : Int64) : ∃ z : Int, jR z ∧ x = jI z := ⟨x.toInt, ⟨by have := x.le_toInt; omega, by have := x.toInt_lt; omega⟩, (Int64.ofInt_toInt x).symm⟩
theorem iI_lt {a b : Int} (ha : iR a) (hb : iR b) : iI a < iI b ↔ a < b := by rw [Int32.lt_iff_toInt_lt, iI_toInt ha, iI_toInt hb]
theorem iI_le {a b : Int} (ha : iR a) (hb : iR b) : iI a ≤ iI b ↔ a ≤ b := by rw [Int32.le_iff_toInt_le, iI_toInt ha, iI_toInt hb]
theorem iI_eq {a b : Int} (ha : iR a) (hb : iR b) : iI a = iI b ↔ a = b := ⟨fun h => by have := congrArg Int32.toInt h; rwa [iI_toInt ha, iI_toInt hb] at this, fun h => by rw [h]⟩
theorem jI_lt {a b : Int} (ha : jR a) (hb : jR b) : jI a < jI b ↔ a < b := by rw [Int64.lt_iff_toInt_lt, jI_toInt ha, jI_toInt hb]
theorem jI_le {a b : Int} (ha : jR a) (hb : jR b) : jI a ≤ jI b ↔ a ≤ b := by rw [Int64.le_iff_toInt_le, jI_toInt ha, jI_toInt hb]
theorem jI_eq {a b : Int} (ha : jR a) (hb : jR b) : jI a = jI b ↔ a = b := ⟨fun h => by have := congrArg Int64.toInt h; rwa [jI_toInt ha, jI_toInt hb] at this, fun h => by rw [h]⟩
theorem iI_0 : iI 0 = 0 := rfl
theorem iI_1 : iI 1 = 1 := rfl
theorem jI_0 : jI 0 = 0 := rfl
theorem iI_lt0 {a : Int} (ha : iR a) : iI a < 0 ↔ a < 0 := iI_lt (b := 0) ha (by omega)
theorem iI_le0 {a : Int} (ha : iR a) : iI a ≤ 0 ↔ a ≤ 0 := iI_le (b := 0) ha (by omega)
theorem iI_ge0 {a : Int} (ha : iR a) : 0 ≤ iI a ↔ 0 ≤ a := iI_le (a := 0) (by omega) ha
theorem iI_gt0 {a : Int} (ha : iR a) : 0 < iI a ↔ 0 < a := iI_lt (a := 0) (by omega) ha
theorem iI_eq0 {a : Int} (ha : iR a) : iI a = 0 ↔ a = 0 := iI_eq (b := 0) ha (by omega)
theorem iI_div {a b : Int} (ha : iR a) (hb : iR b) : iI a / iI b = iI (a.tdiv b) :=
  (Int32.ofInt_tdiv (by rw [Int32.toInt_minValue]; have := ha.1; omega) (by rw [Int32.toInt_maxValue]; have := ha.2; omega) (by rw [Int32.toInt_minValue]; have := hb.1; omega) (by rw [Int32.toInt_maxValue]; have := hb.2; omega)).symm
theorem jI_div {a b : Int} (ha : jR a) (hb : jR b) : jI a / jI b = jI (a.tdiv b) :=
  (Int64.ofInt_tdiv (by rw [Int64.toInt_minValue]; have := ha.1; omega) (by rw [Int64.toInt_maxValue]; have := ha.2; omega) (by rw [Int64.toInt_minValue]; have := hb.1; omega) (by rw [Int64.toInt_maxValue]; have := hb.2; omega)).symm
/-- division of numbers that are not below 0 -/
theorem iI_divP {a b : Int} (ha : iR a) (hb : iR b) (h0 : 0 ≤ a) : iI a / iI b = iI (a / b) := by rw [iI_div ha hb, Int.tdiv_eq_ediv_of_nonneg h0]
theorem jI_divP {a b : Int} (ha : jR a) (hb : jR b) (h0 : 0 ≤ a) : jI a / jI b = jI (a / b) := by rw [jI_div ha hb, Int.tdiv_eq_ediv_of_nonneg h0]
theorem iI_remP {a b : Int} (ha : iR a) (hb : iR b) (h0 : 0 ≤ a) : iI a - iI a / iI b * iI b = iI (a % b) := by
  rw [iI_divP ha hb h0, iI_mul, iI_sub]
  congr 1
  have := Int.emod_add_mul_ediv a b
  rw [Int.mul_comm] at this
  omega
theorem jI_remP {a b : Int} (ha : jR a) (hb : jR b) (h0 : 0 ≤ a) : jI a - jI a / jI b * jI b = jI (a % b) := by
  rw [jI_divP ha hb h0, jI_mul, jI_sub]
  congr 1
  have := Int.emod_add_mul_ediv a b
  rw [Int.mul_comm] at this
  omega
theorem iI_nat (n : Nat) : iI (n : Int) = nI n := Int32.ofInt_eq_ofNat
theorem jI_nat (n : Nat) : jI (n : Int) = lN n := Int64.ofInt_eq_ofNat
theorem iI_clamp {z : Int} (h : iR z) : (iI z).toNatClampNeg = z.toNat := Int32.toNatClampNeg_ofInt_of_le (by have := h.1; omega) (by have := h.2; omega)
theorem iI_clampN {n : Nat} (h : n < 2147483648) : (iI (n : Int)).toNatClampNeg = n := by rw [iI_clamp (by omega)]; rfl
theorem iI_in {z : Int} {n : Nat} (h0 : 0 ≤ z) (h : z < n) (hn : n < 2147483648) : vp_in (iI z) n := by
  rw [vp_in_iff, iI_toInt (by omega)]
  exact ⟨h0, h⟩
theorem iI_toL {z : Int} (h : iR z) : (iI z).toInt64 = jI z := by
  apply Int64.toInt_inj.mp
  rw [Int32.toInt_toInt64, iI_toInt h, jI_toInt (by omega)]
theorem jI_toI (z : Int) : (jI z).toInt32 = iI z := Int64.toInt32_ofInt
theorem iI_byte {z : Int} (h : -128 ≤ z ∧ z < 128) : (iI z).toInt8.toInt32 = iI z := by
  apply Int32.toInt_inj.mp
  rw [iI_toInt (by omega), Int8.toInt_toInt32, Int32.toInt_toInt8, iI_toInt (by omega)]
  exact Int.bmod_eq_of_le (by omega) (by omega)
theorem iI_nar {z : Int} (h : -128 ≤ z ∧ z < 128) : vp_nar .byte (iI z) = iI z := by rw [vp_nar_byte, iI_byte h]
theorem upd_s {f : Nat → Int32} {k : Nat} {x : Int32} : upd f k x k = x := pk_us
theorem upd_n {f : Nat → Int32} {k j : Nat} {x : Int32} (h : j ≠ k) : upd f k x j = f j := pk_un h

section EdRows
variable {p : Program} {l : Launch} {e : Env} {R : Room} {s : State} {m : MethodId} {args : Array Value} {below : List Frame} {meth : Method} {c : Code} {H : Heap} {locs : List Loc} {cells slots : Nat} {Q : State → Prop} {cc : ByteArray} {pc : Nat} {ls : Array Slot} {rest : List Value}
/-- the top of the stack by another name -/
theorem ed_ti {x y : Int32} (h : x = y) (k : W p l e R s m args below meth c H locs cells slots Q (F0 m pc ls (.int y :: rest))) : W p l e R s m args below meth c H locs cells slots Q (F0 m pc ls (.int x :: rest)) := h ▸ k
theorem ed_tl {x y : Int64} (h : x = y) (k : W p l e R s m args below meth c H locs cells slots Q (F0 m pc ls (.long y :: rest))) : W p l e R s m args below meth c H locs cells slots Q (F0 m pc ls (.long x :: rest)) := h ▸ k
/-- the same number, otherwise written -/
theorem ed_tz {x y : Int} (h : x = y) (k : W p l e R s m args below meth c H locs cells slots Q (F0 m pc ls (.int (iI y) :: rest))) : W p l e R s m args below meth c H locs cells slots Q (F0 m pc ls (.int (iI x) :: rest)) := h ▸ k
theorem ed_tj {x y : Int} (h : x = y) (k : W p l e R s m args below meth c H locs cells slots Q (F0 m pc ls (.long (jI y) :: rest))) : W p l e R s m args below meth c H locs cells slots Q (F0 m pc ls (.long (jI x) :: rest)) := h ▸ k
/-- the place by a numeral -/
theorem ed_pc {pc' : Nat} {st : List Value} (h : pc = pc') (k : W p l e R s m args below meth c H locs cells slots Q (F0 m pc' ls st)) : W p l e R s m args below meth c H locs cells slots Q (F0 m pc ls st) := h ▸ k
theorem ed_iadd (hx : p.tables.exec = Jvm.exec) (hb : c.code = cc) {a b : Int} (hdg : decode cc pc = .ok (.iadd, 1)) (k : W p l e R s m args below meth c H locs cells slots Q (F0 m (pc + 1) ls (.int (iI (a + b)) :: rest))) : W p l e R s m args below meth c H locs cells slots Q (F0 m pc ls (.int (iI b) :: .int (iI a) :: rest)) := lv_iadd hx hb hdg (by rw [iI_add]; exact k)
theorem ed_isub (hx : p.tables.exec = Jvm.exec) (hb : c.code = cc) {a b : Int} (hdg : decode cc pc = .ok (.isub, 1)) (k : W p l e R s m args below meth c H locs cells slots Q (F0 m (pc + 1) ls (.int (iI (a - b)) :: rest))) : W p l e R s m args below meth c H locs cells slots Q (F0 m pc ls (.int (iI b) :: .int (iI a) :: rest)) := lv_isub hx hb hdg (by rw [iI_sub]; exact k)
theorem ed_imul (hx : p.tables.exec = Jvm.exec) (hb : c.code = cc) {a b : Int} (hdg : decode cc pc = .ok (.imul, 1)) (k : W p l e R s m args below meth c H locs cells slots Q (F0 m (pc + 1) ls (.int (iI (a * b)) :: rest))) : W p l e R s m args below meth c H locs cells slots Q (F0 m pc ls (.int (iI b) :: .int (iI a) :: rest)) := lv_imul hx hb hdg (by rw [iI_mul]; exact k)
theorem ed_ineg (hx : p.tables.exec = Jvm.exec) (hb : c.code = cc) {a : Int} (hdg : decode cc pc = .ok (.ineg, 1)) (k : W p l e R s m args below meth c H locs cells slots Q (F0 m (pc + 1) ls (.int (iI (-a)) :: rest))) : W p l e R s m args below meth c H locs cells slots Q (F0 m pc ls (.int (iI a) :: rest)) := lv_ineg hx hb hdg (by rw [iI_neg]; exact k)
theorem ed_idiv (hx : p.tables.exec = Jvm.exec) (hb : c.code = cc) {a b : Int} (hdg : decode cc pc = .ok (.idiv, 1)) (ha : iR a) (h0 : 0 ≤ a) (hbb : 0 < b ∧ b < 2147483648) (k : W p l e R s m args below meth c H locs cells slots Q (F0 m (pc + 1) ls (.int (iI (a / b)) :: rest))) : W p l e R s m args below meth c H locs cells slots Q (F0 m pc ls (.int (iI b) :: .int (iI a) :: rest)) := lv_idiv hx hb hdg (by rw [iI_eq0 (by omega)]; omega) (by rw [iI_divP ha (by omega) h0]; exact k)
theorem ed_irem (hx : p.tables.exec = Jvm.exec) (hb : c.code = cc) {a b : Int} (hdg : decode cc pc = .ok (.irem, 1)) (ha : iR a) (h0 : 0 ≤ a) (hbb : 0 < b ∧ b < 2147483648) (k : W p l e R s m args below meth c H locs cells slots Q (F0 m (pc + 1) ls (.int (iI (a % b)) :: rest))) : W p l e R s m args below meth c H locs cells slots Q (F0 m pc ls (.int (iI b) :: .int (iI a) :: rest)) := lv_irem hx hb hdg (by rw [iI_eq0 (by omega)]; omega) (by rw [iI_remP ha (by omega) h0]; exact k)
theorem ed_ladd (hx : p.tables.exec = Jvm.exec) (hb : c.code = cc) {a b : Int} (hdg : decode cc pc = .ok (.ladd, 1)) (k : W p l e R s m args below meth c H locs cells slots Q (F0 m (pc + 1) ls (.long (jI (a + b)) :: rest))) : W p l e R s m args below meth c H locs cells slots Q (F0 m pc ls (.long (jI b) :: .long (jI a) :: rest)) := lv_ladd hx hb hdg (by rw [jI_add]; exact k)
theorem ed_lsub (hx : p.tables.exec = Jvm.exec) (hb : c.code = cc) {a b : Int} (hdg : decode cc pc = .ok (.lsub, 1)) (k : W p l e R s m args below meth c H locs cells slots Q (F0 m (pc + 1) ls (.long (jI (a - b)) :: rest))) : W p l e R s m args below meth c H locs cells slots Q (F0 m pc ls (.long (jI b) :: .long (jI a) :: rest)) := lv_lsub hx hb hdg (by rw [jI_sub]; exact k)
theorem ed_lmul (hx : p.tables.exec = Jvm.exec) (hb : c.code = cc) {a b : Int} (hdg : decode cc pc = .ok (.lmul, 1)) (k : W p l e R s m args below meth c H locs cells slots Q (F0 m (pc + 1) ls (.long (jI (a * b)) :: rest))) : W p l e R s m args below meth c H locs cells slots Q (F0 m pc ls (.long (jI b) :: .long (jI a) :: rest)) := lv_lmul hx hb hdg (by rw [jI_mul]; exact k)
theorem ed_ldiv (hx : p.tables.exec = Jvm.exec) (hb : c.code = cc) {a b : Int} (hdg : decode cc pc = .ok (.ldiv, 1)) (ha : jR a) (h0 : 0 ≤ a) (hbb : 0 < b ∧ b < 9223372036854775808) (k : W p l e R s m args below meth c H locs cells slots Q (F0 m (pc + 1) ls (.long (jI (a / b)) :: rest))) : W p l e R s m args below meth c H locs cells slots Q (F0 m pc ls (.long (jI b) :: .long (jI a) :: rest)) := lv_ldiv hx hb hdg (by intro h; have := (jI_eq (b := 0) (by omega) (by omega)).mp h; omega) (by rw [jI_divP ha (by omega) h0]; exact k)
theorem ed_lrem (hx : p.tables.exec = Jvm.exec) (hb : c.code = cc) {a b : Int} (hdg : decode cc pc = .ok (.lrem, 1)) (ha : jR a) (h0 : 0 ≤ a) (hbb : 0 < b ∧ b < 9223372036854775808) (k : W p l e R s m args below meth c H locs cells slots Q (F0 m (pc + 1) ls (.long (jI (a % b)) :: rest))) : W p l e R s m args below meth c H locs cells slots Q (F0 m pc ls (.long (jI b) :: .long (jI a) :: rest)) := lv_lrem hx hb hdg (by intro h; have := (jI_eq (b := 0) (by omega) (by omega)).mp h; omega) (by rw [jI_remP ha (by omega) h0]; exact k)
theorem ed_i2l (hx : p.tables.exec = Jvm.exec) (hb : c.code = cc) {a : Int} (hdg : decode cc pc = .ok (.i2l, 1)) (ha : iR a) (k : W p l e R s m args below meth c H locs cells slots Q (F0 m (pc + 1) ls (.long (jI a) :: rest))) : W p l e R s m args below meth c H locs cells slots Q (F0 m pc ls (.int (iI a) :: rest)) := lv_i2l hx hb hdg (iI_toL ha) k
theorem ed_l2i (hx : p.tables.exec = Jvm.exec) (hb : c.code = cc) {a : Int} (hdg : decode cc pc = .ok (.l2i, 1)) (k : W p l e R s m args below meth c H locs cells slots Q (F0 m (pc + 1) ls (.int (iI a) :: rest))) : W p l e R s m args below meth c H locs cells slots Q (F0 m pc ls (.long (jI a) :: rest)) := lv_l2i hx hb hdg (jI_toI a) k
theorem ed_i2b (hx : p.tables.exec = Jvm.exec) (hb : c.code = cc) {a : Int} (hdg : decode cc pc = .ok (.i2b, 1)) (ha : -128 ≤ a ∧ a < 128) (k : W p l e R s m args below meth c H locs cells slots Q (F0 m (pc + 1) ls (.int (iI a) :: rest))) : W p l e R s m args below meth c H locs cells slots Q (F0 m pc ls (.int (iI a) :: rest)) := lv_i2b hx hb hdg (iI_byte ha) k

theorem ed_if_eq (hx : p.tables.exec = Jvm.exec) (hb : c.code = cc) {a : Int} {off : Int} {tgt : Nat} (hdg : decode cc pc = .ok (.ifCond .eq off, 3)) (ht : (pc : Int) + off = (tgt : Int)) (ha : iR a) (kt : a = 0 → W p l e R s m args below meth c H locs cells slots Q (F0 m tgt ls rest)) (kf : ¬ a = 0 → W p l e R s m args below meth c H locs cells slots Q (F0 m (pc + 3) ls rest)) : W p l e R s m args below meth c H locs cells slots Q (F0 m pc ls (.int (iI a) :: rest)) := lv_if_eq hx hb hdg ht (fun z => kt ((iI_eq0 ha).mp z)) (fun z => kf (fun z2 => z ((iI_eq0 ha).mpr z2)))
theorem ed_icmp_eq (hx : p.tables.exec = Jvm.exec) (hb : c.code = cc) {a b : Int} {off : Int} {tgt : Nat} (hdg : decode cc pc = .ok (.if_icmp .eq off, 3)) (ht : (pc : Int) + off = (tgt : Int)) (ha : iR a) (hbr : iR b) (kt : a = b → W p l e R s m args below meth c H locs cells slots Q (F0 m tgt ls rest)) (kf : ¬ a = b → W p l e R s m args below meth c H locs cells slots Q (F0 m (pc + 3) ls rest)) : W p l e R s m args below meth c H locs cells slots Q (F0 m pc ls (.int (iI b) :: .int (iI a) :: rest)) := lv_icmp_eq hx hb hdg ht (fun z => kt ((iI_eq ha hbr).mp z)) (fun z => kf (fun z2 => z ((iI_eq ha hbr).mpr z2)))
theorem ed_if_ne (hx : p.tables.exec = Jvm.exec) (hb : c.code = cc) {a : Int} {off : Int} {tgt : Nat} (hdg : decode cc pc = .ok (.ifCond .ne off, 3)) (ht : (pc : Int) + off = (tgt : Int)) (ha : iR a) (kt : ¬ a = 0 → W p l e R s m args below meth c H locs cells slots Q (F0 m tgt ls rest)) (kf : a = 0 → W p l e R s m args below meth c H locs cells slots Q (F0 m (pc + 3) ls rest)) : W p l e R s m args below meth c H locs cells slots Q (F0 m pc ls (.int (iI a) :: rest)) := lv_if_ne hx hb hdg ht (fun z => kt (fun z2 => z ((iI_eq0 ha).mpr z2))) (fun z => kf ((iI_eq0 ha).mp z))
theorem ed_icmp_ne (hx : p.tables.exec = Jvm.exec) (hb : c.code = cc) {a b : Int} {off : Int} {tgt : Nat} (hdg : decode cc pc = .ok (.if_icmp .ne off, 3)) (ht : (pc : Int) + off = (tgt : Int)) (ha : iR a) (hbr : iR b) (kt : ¬ a = b → W p l e R s m args below meth c H locs cells slots Q (F0 m tgt ls rest)) (kf : a = b → W p l e R s m args below meth c H locs cells slots Q (F0 m (pc + 3) ls rest)) : W p l e R s m args below meth c H locs cells slots Q (F0 m pc ls (.int (iI b) :: .int (iI a) :: rest)) := lv_icmp_ne hx hb hdg ht (fun z => kt (fun z2 => z ((iI_eq ha hbr).mpr z2))) (fun z => kf ((iI_eq ha hbr).mp z))
theorem ed_if_lt (hx : p.tables.exec = Jvm.exec) (hb : c.code = cc) {a : Int} {off : Int} {tgt : Nat} (hdg : decode cc pc = .ok (.ifCond .lt off, 3)) (ht : (pc : Int) + off = (tgt : Int)) (ha : iR a) (kt : a < 0 → W p l e R s m args below meth c H locs cells slots Q (F0 m tgt ls rest)) (kf : ¬ a < 0 → W p l e R s m args below meth c H locs cells slots Q (F0 m (pc + 3) ls rest)) : W p l e R s m args below meth c H locs cells slots Q (F0 m pc ls (.int (iI a) :: rest)) := lv_if_lt hx hb hdg ht (fun z => kt ((iI_lt0 ha).mp z)) (fun z => kf (fun z2 => z ((iI_lt0 ha).mpr z2)))
theorem ed_icmp_lt (hx : p.tables.exec = Jvm.exec) (hb : c.code = cc) {a b : Int} {off : Int} {tgt : Nat} (hdg : decode cc pc = .ok (.if_icmp .lt off, 3)) (ht : (pc : Int) + off = (tgt : Int)) (ha : iR a) (hbr : iR b) (kt : a < b → W p l e R s m args below meth c H locs cells slots Q (F0 m tgt ls rest)) (kf : ¬ a < b → W p l e R s m args below meth c H locs cells slots Q (F0 m (pc + 3) ls rest)) : W p l e R s m args below meth c H locs cells slots Q (F0 m pc ls (.int (iI b) :: .int (iI a) :: rest)) := lv_icmp_lt hx hb hdg ht (fun z => kt ((iI_lt ha hbr).mp z)) (fun z => kf (fun z2 => z ((iI_lt ha hbr).mpr z2)))
theorem ed_if_ge (hx : p.tables.exec = Jvm.exec) (hb : c.code = cc) {a : Int} {off : Int} {tgt : Nat} (hdg : decode cc pc = .ok (.ifCond .ge off, 3)) (ht : (pc : Int) + off = (tgt : Int)) (ha : iR a) (kt : 0 ≤ a → W p l e R s m args below meth c H locs cells slots Q (F0 m tgt ls rest)) (kf : ¬ 0 ≤ a → W p l e R s m args below meth c H locs cells slots Q (F0 m (pc + 3) ls rest)) : W p l e R s m args below meth c H locs cells slots Q (F0 m pc ls (.int (iI a) :: rest)) := lv_if_ge hx hb hdg ht (fun z => kt ((iI_ge0 ha).mp z)) (fun z => kf (fun z2 => z ((iI_ge0 ha).mpr z2)))
theorem ed_icmp_ge (hx : p.tables.exec = Jvm.exec) (hb : c.code = cc) {a b : Int} {off : Int} {tgt : Nat} (hdg : decode cc pc = .ok (.if_icmp .ge off, 3)) (ht : (pc : Int) + off = (tgt : Int)) (ha : iR a) (hbr : iR b) (kt : b ≤ a → W p l e R s m args below meth c H locs cells slots Q (F0 m tgt ls rest)) (kf : ¬ b ≤ a → W p l e R s m args below meth c H locs cells slots Q (F0 m (pc + 3) ls rest)) : W p l e R s m args below meth c H locs cells slots Q (F0 m pc ls (.int (iI b) :: .int (iI a) :: rest)) := lv_icmp_ge hx hb hdg ht (fun z => kt ((iI_le hbr ha).mp z)) (fun z => kf (fun z2 => z ((iI_le hbr ha).mpr z2)))
theorem ed_if_gt (hx : p.tables.exec = Jvm.exec) (hb : c.code = cc) {a : Int} {off : Int} {tgt : Nat} (hdg : decode cc pc = .ok (.ifCond .gt off, 3)) (ht : (pc : Int) + off = (tgt : Int)) (ha : iR a) (kt : 0 < a → W p l e R s m args below meth c H locs cells slots Q (F0 m tgt ls rest)) (kf : ¬ 0 < a → W p l e R s m args below meth c H locs cells slots Q (F0 m (pc + 3) ls rest)) : W p l e R s m args below meth c H locs cells slots Q (F0 m pc ls (.int (iI a) :: rest)) := lv_if_gt hx hb hdg ht (fun z => kt ((iI_gt0 ha).mp z)) (fun z => kf (fun z2 => z ((iI_gt0 ha).mpr z2)))
theorem ed_icmp_gt (hx : p.tables.exec = Jvm.exec) (hb : c.code = cc) {a b : Int} {off : Int} {tgt : Nat} (hdg : decode cc pc = .ok (.if_icmp .gt off, 3)) (ht : (pc : Int) + off = (tgt : Int)) (ha : iR a) (hbr : iR b) (kt : b < a → W p l e R s m args below meth c H locs cells slots Q (F0 m tgt ls rest)) (kf : ¬ b < a → W p l e R s m args below meth c H locs cells slots Q (F0 m (pc + 3) ls rest)) : W p l e R s m args below meth c H locs cells slots Q (F0 m pc ls (.int (iI b) :: .int (iI a) :: rest)) := lv_icmp_gt hx hb hdg ht (fun z => kt ((iI_lt hbr ha).mp z)) (fun z => kf (fun z2 => z ((iI_lt hbr ha).mpr z2)))
theorem ed_if_le (hx : p.tables.exec = Jvm.exec) (hb : c.code = cc) {a : Int} {off : Int} {tgt : Nat} (hdg : decode cc pc = .ok (.ifCond .le off, 3)) (ht : (pc : Int) + off = (tgt : Int)) (ha : iR a) (kt : a ≤ 0 → W p l e R s m args below meth c H locs cells slots Q (F0 m tgt ls rest)) (kf : ¬ a ≤ 0 → W p l e R s m args below meth c H locs cells slots Q (F0 m (pc + 3) ls rest)) : W p l e R s m args below meth c H locs cells slots Q (F0 m pc ls (.int (iI a) :: rest)) := lv_if_le hx hb hdg ht (fun z => kt ((iI_le0 ha).mp z)) (fun z => kf (fun z2 => z ((iI_le0 ha).mpr z2)))
theorem ed_icmp_le (hx : p.tables.exec = Jvm.exec) (hb : c.code = cc) {a b : Int} {off : Int} {tgt : Nat} (hdg : decode cc pc = .ok (.if_icmp .le off, 3)) (ht : (pc : Int) + off = (tgt : Int)) (ha : iR a) (hbr : iR b) (kt : a ≤ b → W p l e R s m args below meth c H locs cells slots Q (F0 m tgt ls rest)) (kf : ¬ a ≤ b → W p l e R s m args below meth c H locs cells slots Q (F0 m (pc + 3) ls rest)) : W p l e R s m args below meth c H locs cells slots Q (F0 m pc ls (.int (iI b) :: .int (iI a) :: rest)) := lv_icmp_le hx hb hdg ht (fun z => kt ((iI_le ha hbr).mp z)) (fun z => kf (fun z2 => z ((iI_le ha hbr).mpr z2)))
variable {D : va_G} {cl : List vw_C} {tys : List (ClassId × FieldType)} {ws : va_W} {A : Nat → Prop} {H0 : Heap} {a : Nat} {cA : ClassId} {n : Nat} {f : Nat → Int32}
theorem ed_iald (hx : p.tables.exec = Jvm.exec) (hb : c.code = cc) (hK : va_K D cl tys s) (hP : va_P D cl ws H) (q0 t0 : Nat) (ha : ws[q0]? = some (a, .inl (cA, n, .inl f))) (ht : tys[t0]? = some (cA, .int)) {z y : Int} (i : Nat) (hi : z = (i : Int)) (hin : i < n) (hn : n < 2147483648) (hy : f i = iI y) (hdg : decode cc pc = .ok (.iaload, 1)) (kk : W p l e R s m args below meth c H locs cells slots Q (F0 m (pc + 1) ls (.int (iI y) :: rest))) : W p l e R s m args below meth c H locs cells slots Q (F0 m pc ls (.int (iI z) :: .ref a :: rest)) := by
  subst hi
  refine va_iald hx hb hK hP q0 t0 ha ht (iI_in (by omega) (by omega) hn) hdg ?_
  rw [iI_clampN (by omega), hy]
  exact kk
theorem ed_bald (hx : p.tables.exec = Jvm.exec) (hb : c.code = cc) (hK : va_K D cl tys s) (hP : va_P D cl ws H) (q0 t0 : Nat) (ha : ws[q0]? = some (a, .inl (cA, n, .inl f))) (ht : tys[t0]? = some (cA, .byte)) {z y : Int} (i : Nat) (hi : z = (i : Int)) (hin : i < n) (hn : n < 2147483648) (hy : f i = iI y) (hdg : decode cc pc = .ok (.baload, 1)) (kk : W p l e R s m args below meth c H locs cells slots Q (F0 m (pc + 1) ls (.int (iI y) :: rest))) : W p l e R s m args below meth c H locs cells slots Q (F0 m pc ls (.int (iI z) :: .ref a :: rest)) := by
  subst hi
  refine va_bald hx hb hK hP q0 t0 ha ht (iI_in (by omega) (by omega) hn) hdg ?_
  rw [iI_clampN (by omega), hy]
  exact kk
theorem ed_iast (hx : p.tables.exec = Jvm.exec) (hb : c.code = cc) (hK : va_K D cl tys s) (hP : va_P D cl ws H) (hD : va_D A ws) (hS : va_S A H0 H locs) (q0 t0 : Nat) (ha : ws[q0]? = some (a, .inl (cA, n, .inl f))) (ht : tys[t0]? = some (cA, .int)) {z : Int} {x : Int32} (i : Nat) (hi : z = (i : Int)) (hin : i < n) (hn : n < 2147483648) (hdg : decode cc pc = .ok (.iastore, 1)) (kk : ∀ (H1 : Heap) (locs1 : List Loc), va_P D cl (ws.set q0 (a, .inl (cA, n, .inl (upd f i x)))) H1 → va_D A (ws.set q0 (a, .inl (cA, n, .inl (upd f i x)))) → va_S A H0 H1 locs1 → W p l e R s m args below meth c H1 locs1 cells slots Q (F0 m (pc + 1) ls rest)) : W p l e R s m args below meth c H locs cells slots Q (F0 m pc ls (.int x :: .int (iI z) :: .ref a :: rest)) := by
  subst hi
  refine va_iast hx hb hK hP hD hS q0 t0 ha ht (iI_in (by omega) (by omega) hn) hdg ?_
  rw [iI_clampN (by omega)]
  exact kk
theorem ed_bast (hx : p.tables.exec = Jvm.exec) (hb : c.code = cc) (hK : va_K D cl tys s) (hP : va_P D cl ws H) (hD : va_D A ws) (hS : va_S A H0 H locs) (q0 t0 : Nat) (ha : ws[q0]? = some (a, .inl (cA, n, .inl f))) (ht : tys[t0]? = some (cA, .byte)) {z x : Int} (i : Nat) (hi : z = (i : Int)) (hin : i < n) (hn : n < 2147483648) (hv : -128 ≤ x ∧ x < 128) (hdg : decode cc pc = .ok (.bastore, 1)) (kk : ∀ (H1 : Heap) (locs1 : List Loc), va_P D cl (ws.set q0 (a, .inl (cA, n, .inl (upd f i (iI x))))) H1 → va_D A (ws.set q0 (a, .inl (cA, n, .inl (upd f i (iI x))))) → va_S A H0 H1 locs1 → W p l e R s m args below meth c H1 locs1 cells slots Q (F0 m (pc + 1) ls rest)) : W p l e R s m args below meth c H locs cells slots Q (F0 m pc ls (.int (iI x) :: .int (iI z) :: .ref a :: rest)) := by
  subst hi
  refine va_bast hx hb hK hP hD hS q0 t0 ha ht (iI_in (by omega) (by omega) hn) hdg ?_
  rw [iI_clampN (by omega), iI_nar hv]
  exact kk
theorem ed_lif_eq (hx : p.tables.exec = Jvm.exec) (hb : c.code = cc) {a b : Int} {off : Int} {tgt : Nat} (hd1 : decode cc pc = .ok (.lcmp, 1)) (hd2 : decode cc (pc + 1) = .ok (.ifCond .eq off, 3)) (ht : ((pc + 1 : Nat) : Int) + off = (tgt : Int)) (ha : jR a) (hbr : jR b) (kt : a = b → W p l e R s m args below meth c H locs cells slots Q (F0 m tgt ls rest)) (kf : ¬ a = b → W p l e R s m args below meth c H locs cells slots Q (F0 m (pc + 1 + 3) ls rest)) : W p l e R s m args below meth c H locs cells slots Q (F0 m pc ls (.long (jI b) :: .long (jI a) :: rest)) := W.lcmp hx hb hd1 (lv_if_eq hx hb hd2 ht (fun z => kt (((lg_cmp_eq _ _).trans (jI_eq ha hbr)).mp z)) (fun z => kf (fun z2 => z (((lg_cmp_eq _ _).trans (jI_eq ha hbr)).mpr z2))))
theorem ed_lif_ne (hx : p.tables.exec = Jvm.exec) (hb : c.code = cc) {a b : Int} {off : Int} {tgt : Nat} (hd1 : decode cc pc = .ok (.lcmp, 1)) (hd2 : decode cc (pc + 1) = .ok (.ifCond .ne off, 3)) (ht : ((pc + 1 : Nat) : Int) + off = (tgt : Int)) (ha : jR a) (hbr : jR b) (kt : ¬ a = b → W p l e R s m args below meth c H locs cells slots Q (F0 m tgt ls rest)) (kf : a = b → W p l e R s m args below meth c H locs cells slots Q (F0 m (pc + 1 + 3) ls rest)) : W p l e R s m args below meth c H locs cells slots Q (F0 m pc ls (.long (jI b) :: .long (jI a) :: rest)) := W.lcmp hx hb hd1 (lv_if_ne hx hb hd2 ht (fun z => kt (fun z2 => z (((lg_cmp_eq _ _).trans (jI_eq ha hbr)).mpr z2))) (fun z => kf (((lg_cmp_eq _ _).trans (jI_eq ha hbr)).mp z)))
theorem ed_lif_lt (hx : p.tables.exec = Jvm.exec) (hb : c.code = cc) {a b : Int} {off : Int} {tgt : Nat} (hd1 : decode cc pc = .ok (.lcmp, 1)) (hd2 : decode cc (pc + 1) = .ok (.ifCond .lt off, 3)) (ht : ((pc + 1 : Nat) : Int) + off = (tgt : Int)) (ha : jR a) (hbr : jR b) (kt : a < b → W p l e R s m args below meth c H locs cells slots Q (F0 m tgt ls rest)) (kf : ¬ a < b → W p l e R s m args below meth c H locs cells slots Q (F0 m (pc + 1 + 3) ls rest)) : W p l e R s m args below meth c H locs cells slots Q (F0 m pc ls (.long (jI b) :: .long (jI a) :: rest)) := W.lcmp hx hb hd1 (lv_if_lt hx hb hd2 ht (fun z => kt (((lg_cmp_lt _ _).trans (jI_lt ha hbr)).mp z)) (fun z => kf (fun z2 => z (((lg_cmp_lt _ _).trans (jI_lt ha hbr)).mpr z2))))
theorem ed_lif_ge (hx : p.tables.exec = Jvm.exec) (hb : c.code = cc) {a b : Int} {off : Int} {tgt : Nat} (hd1 : decode cc pc = .ok (.lcmp, 1)) (hd2 : decode cc (pc + 1) = .ok (.ifCond .ge off, 3)) (ht : ((pc + 1 : Nat) : Int) + off = (tgt : Int)) (ha : jR a) (hbr : jR b) (kt : b ≤ a → W p l e R s m args below meth c H locs cells slots Q (F0 m tgt ls rest)) (kf : ¬ b ≤ a → W p l e R s m args below meth c H locs cells slots Q (F0 m (pc + 1 + 3) ls rest)) : W p l e R s m args below meth c H locs cells slots Q (F0 m pc ls (.long (jI b) :: .long (jI a) :: rest)) := W.lcmp hx hb hd1 (lv_if_ge hx hb hd2 ht (fun z => kt (((lg_cmp_ge _ _).trans (jI_le hbr ha)).mp z)) (fun z => kf (fun z2 => z (((lg_cmp_ge _ _).trans (jI_le hbr ha)).mpr z2))))
theorem ed_lif_gt (hx : p.tables.exec = Jvm.exec) (hb : c.code = cc) {a b : Int} {off : Int} {tgt : Nat} (hd1 : decode cc pc = .ok (.lcmp, 1)) (hd2 : decode cc (pc + 1) = .ok (.ifCond .gt off, 3)) (ht : ((pc + 1 : Nat) : Int) + off = (tgt : Int)) (ha : jR a) (hbr : jR b) (kt : b < a → W p l e R s m args below meth c H locs cells slots Q (F0 m tgt ls rest)) (kf : ¬ b < a → W p l e R s m args below meth c H locs cells slots Q (F0 m (pc + 1 + 3) ls rest)) : W p l e R s m args below meth c H locs cells slots Q (F0 m pc ls (.long (jI b) :: .long (jI a) :: rest)) := W.lcmp hx hb hd1 (lv_if_gt hx hb hd2 ht (fun z => kt (((lg_cmp_gt _ _).trans (jI_lt hbr ha)).mp z)) (fun z => kf (fun z2 => z (((lg_cmp_gt _ _).trans (jI_lt hbr ha)).mpr z2))))
theorem ed_lif_le (hx : p.tables.exec = Jvm.exec) (hb : c.code = cc) {a b : Int} {off : Int} {tgt : Nat} (hd1 : decode cc pc = .ok (.lcmp, 1)) (hd2 : decode cc (pc + 1) = .ok (.ifCond .le off, 3)) (ht : ((pc + 1 : Nat) : Int) + off = (tgt : Int)) (ha : jR a) (hbr : jR b) (kt : a ≤ b → W p l e R s m args below meth c H locs cells slots Q (F0 m tgt ls rest)) (kf : ¬ a ≤ b → W p l e R s m args below meth c H locs cells slots Q (F0 m (pc + 1 + 3) ls rest)) : W p l e R s m args below meth c H locs cells slots Q (F0 m pc ls (.long (jI b) :: .long (jI a) :: rest)) := W.lcmp hx hb hd1 (lv_if_le hx hb hd2 ht (fun z => kt (((lg_cmp_le _ _).trans (jI_le ha hbr)).mp z)) (fun z => kf (fun z2 => z (((lg_cmp_le _ _).trans (jI_le ha hbr)).mpr z2))))
end EdRows
end
section
/-! Pure numbers: decimal length, zeros behind, digits in base ten and in base 10^9 -/
abbrev BB : Nat := 1000000000
theorem p10_pos (k : Nat) : 0 < 10 ^ k := Nat.pow_pos (by decide)
theorem pB_pos (k : Nat) : 0 < BB ^ k := Nat.pow_pos (by decide)
theorem pB_10 (k : Nat) : BB ^ k = 10 ^ (9 * k) := by rw [Nat.pow_mul]
theorem p10_le {a b : Nat} (h : a ≤ b) : 10 ^ a ≤ 10 ^ b := Nat.pow_le_pow_right (by decide) h
theorem p10_lt {a b : Nat} (h : 10 ^ a < 10 ^ b) : a < b := (Nat.pow_lt_pow_iff_right (by decide)).mp h
theorem p10_lt' {a b : Nat} (h : a < b) : 10 ^ a < 10 ^ b := Nat.pow_lt_pow_right (by decide) h
/-- how many decimal digits -/
def dl (n : Nat) : Nat := if h : 0 < n then dl (n / 10) + 1 else 0
termination_by n
decreasing_by omega
theorem dl_0 : dl 0 = 0 := by rw [dl]; simp
theorem dl_s {n : Nat} (h : 0 < n) : dl n = dl (n / 10) + 1 := by rw [dl]; simp [h]
theorem dl_lt (n : Nat) : n < 10 ^ dl n := by
  induction n using Nat.strongRecOn with
  | ind n ih =>
    rcases Nat.eq_zero_or_pos n with rfl | h
    · rw [dl_0]; decide
    · have := ih (n / 10) (by omega)
      rw [dl_s h, Nat.pow_succ]
      omega
theorem dl_le {n : Nat} (h : 0 < n) : 10 ^ (dl n - 1) ≤ n := by
  induction n using Nat.strongRecOn with
  | ind n ih =>
    rw [dl_s h, Nat.add_sub_cancel]
    rcases Nat.eq_zero_or_pos (n / 10) with h0 | h1
    · rw [h0, dl_0]; exact h
    · have := ih (n / 10) (by omega) h1
      have h2 : dl (n / 10) = (dl (n / 10) - 1) + 1 := by rw [dl_s h1]; omega
      rw [h2, Nat.pow_succ]
      omega
theorem dl_pos {n : Nat} (h : 0 < n) : 0 < dl n := by rw [dl_s h]; omega
theorem dl_eq0 {n : Nat} (h : dl n = 0) : n = 0 := by
  rcases Nat.eq_zero_or_pos n with h0 | h1
  · exact h0
  · have := dl_pos h1; omega
theorem dl_un {n L : Nat} (h1 : n < 10 ^ L) (h2 : 0 < L → 10 ^ (L - 1) ≤ n) : dl n = L := by
  rcases Nat.lt_trichotomy (dl n) L with h | h | h
  · have a := dl_lt n
    have b := h2 (by omega)
    have d := p10_le (show dl n ≤ L - 1 by omega)
    omega
  · exact h
  · have hn : 0 < n := by
      rcases Nat.eq_zero_or_pos n with h0 | h1
      · subst h0; rw [dl_0] at h; omega
      · exact h1
    have a := dl_le hn
    have d := p10_le (show L ≤ dl n - 1 by omega)
    omega
theorem dl_mono {a b : Nat} (h : a ≤ b) : dl a ≤ dl b := by
  rcases Nat.eq_zero_or_pos a with rfl | ha
  · rw [dl_0]; omega
  · have h1 := dl_le ha
    have h2 := dl_lt b
    have h3 : dl a - 1 < dl b := p10_lt (by omega)
    omega
theorem dl_bound {n L : Nat} (h : n < 10 ^ L) : dl n ≤ L := by
  rcases Nat.eq_zero_or_pos n with rfl | ha
  · rw [dl_0]; omega
  · have h1 := dl_le ha
    have h3 : dl n - 1 < L := p10_lt (by omega)
    omega
theorem dl_ge {n L : Nat} (h : 10 ^ L ≤ n) : L < dl n := by
  have h2 := dl_lt n
  exact p10_lt (by omega)
theorem dl_mul {n : Nat} (h : 0 < n) (k : Nat) : dl (n * 10 ^ k) = dl n + k := by
  apply dl_un
  · rw [Nat.pow_add]; exact Nat.mul_lt_mul_of_pos_right (dl_lt n) (p10_pos k)
  · intro _
    have h1 := dl_pos h
    have h2 : dl n + k - 1 = dl n - 1 + k := by omega
    rw [h2, Nat.pow_add]
    exact Nat.mul_le_mul_right _ (dl_le h)
theorem dl_div (n k : Nat) : dl (n / 10 ^ k) = dl n - k := by
  rcases Nat.lt_or_ge n (10 ^ k) with h | h
  · rw [Nat.div_eq_of_lt h, dl_0]
    have := dl_bound h
    omega
  · have hn : 0 < n := Nat.lt_of_lt_of_le (p10_pos k) h
    have hk := dl_ge h
    apply dl_un
    · rw [Nat.div_lt_iff_lt_mul (p10_pos k), ← Nat.pow_add]
      have : dl n - k + k = dl n := by omega
      rw [this]; exact dl_lt n
    · intro _
      rw [Nat.le_div_iff_mul_le (p10_pos k), ← Nat.pow_add]
      have : dl n - k - 1 + k = dl n - 1 := by omega
      rw [this]; exact dl_le hn
/-- without the zeros behind -/
def rz (n : Nat) : Nat := if h : 0 < n ∧ n % 10 = 0 then rz (n / 10) else n
termination_by n
decreasing_by omega
/-- how many zeros stood behind -/
def rt (n : Nat) : Nat := if h : 0 < n ∧ n % 10 = 0 then rt (n / 10) + 1 else 0
termination_by n
decreasing_by omega
theorem rz_y {n : Nat} (h : 0 < n) (h2 : n % 10 = 0) : rz n = rz (n / 10) := by rw [rz]; simp [h, h2]
theorem rz_n {n : Nat} (h : ¬ n % 10 = 0) : rz n = n := by rw [rz]; simp [h]
theorem rz_0 : rz 0 = 0 := by rw [rz]; simp
theorem rt_y {n : Nat} (h : 0 < n) (h2 : n % 10 = 0) : rt n = rt (n / 10) + 1 := by rw [rt]; simp [h, h2]
theorem rt_n {n : Nat} (h : ¬ n % 10 = 0) : rt n = 0 := by rw [rt]; simp [h]
theorem rt_0 : rt 0 = 0 := by rw [rt]; simp
theorem rz_eq (n : Nat) : n = rz n * 10 ^ rt n := by
  induction n using Nat.strongRecOn with
  | ind n ih =>
    rcases Nat.eq_zero_or_pos n with rfl | h
    · rw [rz_0]; simp
    · by_cases h2 : n % 10 = 0
      · have := ih (n / 10) (by omega)
        rw [rz_y h h2, rt_y h h2, Nat.pow_succ, ← Nat.mul_assoc, ← this]
        omega
      · rw [rz_n h2, rt_n h2]; simp
theorem rz_last {n : Nat} (h : 0 < n) : ¬ rz n % 10 = 0 := by
  induction n using Nat.strongRecOn with
  | ind n ih =>
    by_cases h2 : n % 10 = 0
    · rw [rz_y h h2]; exact ih (n / 10) (by omega) (by omega)
    · rw [rz_n h2]; exact h2
theorem rz_pos {n : Nat} (h : 0 < n) : 0 < rz n := by
  have := rz_last h
  omega
theorem rz_mul (n k : Nat) : rz (n * 10 ^ k) = rz n := by
  induction k with
  | zero => simp
  | succ k ih =>
    rcases Nat.eq_zero_or_pos n with rfl | h
    · simp
    · have h1 : n * 10 ^ (k + 1) = n * 10 ^ k * 10 := by rw [Nat.pow_succ, Nat.mul_assoc]
      have h2 : 0 < n * 10 ^ k := Nat.mul_pos h (p10_pos k)
      rw [h1, rz_y (by omega) (by omega), Nat.mul_div_cancel _ (by decide), ih]
theorem rz_un {n d t : Nat} (h : n = d * 10 ^ t) (hd : ¬ d % 10 = 0) : rz n = d := by
  rw [h, rz_mul, rz_n hd]
theorem rz_rz (n : Nat) : rz (rz n) = rz n := by
  rcases Nat.eq_zero_or_pos n with rfl | h
  · rw [rz_0, rz_0]
  · exact rz_n (rz_last h)
theorem dl_rz {n : Nat} (h : 0 < n) : dl n = dl (rz n) + rt n := by
  have h1 := dl_mul (rz_pos h) (rt n)
  rw [← rz_eq n] at h1
  exact h1
theorem rz_le (n : Nat) : rz n ≤ n := by
  have h := rz_eq n
  have h2 : rz n * 1 ≤ rz n * 10 ^ rt n := Nat.mul_le_mul_left _ (p10_pos _)
  omega
/-! digits -/
theorem nb_mod (b V i : Nat) : V % b ^ (i + 1) = V % b ^ i + b ^ i * (V / b ^ i % b) := by rw [Nat.pow_succ, Nat.mod_mul]
/-- 'times': the product at a part -/
theorem tm_prod {b : Nat} (hb : 0 < b) (V F i : Nat) : (V % b ^ (i + 1)) * F / b ^ i = (V / b ^ i % b) * F + (V % b ^ i) * F / b ^ i := by
  rw [nb_mod, Nat.add_comm, Nat.add_mul, Nat.mul_assoc, Nat.mul_add_div (Nat.pow_pos hb)]
theorem tm_carry {b : Nat} (hb : 0 < b) (V F i : Nat) : ((V / b ^ i % b) * F + (V % b ^ i) * F / b ^ i) / b = (V % b ^ (i + 1)) * F / b ^ (i + 1) := by
  rw [← tm_prod hb, Nat.div_div_eq_div_mul, ← Nat.pow_succ]
theorem tm_digit {b : Nat} (hb : 0 < b) (V F i : Nat) : ((V / b ^ i % b) * F + (V % b ^ i) * F / b ^ i) % b = V * F / b ^ i % b := by
  rw [← tm_prod hb]
  have h : V * F = b ^ i * (b * (V / b ^ (i + 1) * F)) + (V % b ^ (i + 1)) * F := by
    have h1 : V = b ^ (i + 1) * (V / b ^ (i + 1)) + V % b ^ (i + 1) := (Nat.div_add_mod V _).symm
    have h2 : V * F = (b ^ (i + 1) * (V / b ^ (i + 1)) + V % b ^ (i + 1)) * F := by rw [← h1]
    rw [h2, Nat.add_mul, Nat.pow_succ]
    simp only [Nat.mul_assoc]
  rw [h, Nat.mul_add_div (Nat.pow_pos hb), Nat.mul_add_mod]
theorem tm_last {b V F i : Nat} (h : V < b ^ i) : (V % b ^ i) * F / b ^ i = V * F / b ^ i := by rw [Nat.mod_eq_of_lt h]
theorem tm_small {b V F i : Nat} (hb : 0 < b) (hF : 0 < F) : (V % b ^ i) * F / b ^ i < F := by
  rw [Nat.div_lt_iff_lt_mul (Nat.pow_pos hb), Nat.mul_comm]
  exact Nat.mul_lt_mul_of_pos_left (Nat.mod_lt _ (Nat.pow_pos hb)) hF
/-- digits of a part -/
theorem pt_digit (x r : Nat) (hr : r < 9) : x % BB / 10 ^ r % 10 = x / 10 ^ r % 10 := by
  have h : BB = 10 ^ r * 10 ^ (9 - r) := by
    rw [← Nat.pow_add]
    have : r + (9 - r) = 9 := by omega
    rw [this]
  rw [h, Nat.mod_mul_right_div_self, Nat.mod_mod_of_dvd]
  exact ⟨10 ^ (9 - r - 1), by rw [← Nat.pow_succ']; congr 1; omega⟩
theorem nb_digit (V q : Nat) : V / BB ^ (q / 9) % BB / 10 ^ (q % 9) % 10 = V / 10 ^ q % 10 := by
  rw [pt_digit _ _ (Nat.mod_lt _ (by decide)), Nat.div_div_eq_div_mul, pB_10, ← Nat.pow_add]
  have : 9 * (q / 9) + q % 9 = q := by omega
  rw [this]
/-- 'setDigits': a digit more -/
theorem sd_step (x t : Nat) : x / 10 % 10 ^ t * 10 + x % 10 = x % 10 ^ (t + 1) := by
  rw [Nat.pow_succ, Nat.mul_comm (10 ^ t) 10, Nat.mod_mul, Nat.mul_comm 10, Nat.add_comm]
/-- the first k of L digits -/
theorem dg_first {D L i : Nat} (h : i < L) : D / 10 ^ (L - (i + 1)) = D / 10 ^ (L - i) * 10 + D / 10 ^ (L - 1 - i) % 10 := by
  have h1 : L - i = L - (i + 1) + 1 := by omega
  have h2 : L - 1 - i = L - (i + 1) := by omega
  rw [h1, h2, Nat.pow_succ, ← Nat.div_div_eq_div_mul]
  omega
/-! the state of a Natural: its parts are those of V -/
def nt_ok (f : Nat → Int32) (sz V : Nat) : Prop := sz ≤ 306 ∧ V < BB ^ sz ∧ (0 < sz → BB ^ (sz - 1) ≤ V) ∧ ∀ i, i < sz → f i = iI ((V / BB ^ i % BB : Nat) : Int)
/-- the digits of D, L of them, stand in f -/
def dg_ok (f : Nat → Int32) (L D : Nat) : Prop := ∀ i, i < L → f i = iI ((D / 10 ^ (L - 1 - i) % 10 : Nat) : Int)
/-- a byte array that holds numbers of a byte -/
def by_ok (f : Nat → Int32) : Prop := ∀ i, ∃ z : Int, -128 ≤ z ∧ z < 128 ∧ f i = iI z
theorem by_up {f : Nat → Int32} {k : Nat} {z : Int} (h : by_ok f) (hz : -128 ≤ z ∧ z < 128) : by_ok (upd f k (iI z)) := fun i => by
  by_cases e : i = k
  · subst e; exact ⟨z, hz.1, hz.2, pk_us⟩
  · obtain ⟨y, a, b, d⟩ := h i; exact ⟨y, a, b, by rw [pk_un e]; exact d⟩
theorem dg_lt (D k : Nat) : D / 10 ^ k % 10 < 10 := Nat.mod_lt _ (by decide)
theorem nb_lt (V i : Nat) : V / BB ^ i % BB < BB := Nat.mod_lt _ (by decide)
theorem nt_len {f : Nat → Int32} {sz V : Nat} (h : nt_ok f sz V) (h0 : 0 < sz) : dl V = 9 * (sz - 1) + dl (V / BB ^ (sz - 1)) := by
  obtain ⟨-, h1, h2, -⟩ := h
  have h3 := h2 h0
  rw [pB_10, dl_div]
  rw [pB_10] at h3
  have := dl_ge h3
  omega
theorem nt_top {f : Nat → Int32} {sz V : Nat} (h : nt_ok f sz V) (h0 : 0 < sz) : V / BB ^ (sz - 1) % BB = V / BB ^ (sz - 1) ∧ 0 < V / BB ^ (sz - 1) := by
  obtain ⟨-, h1, h2, -⟩ := h
  constructor
  · apply Nat.mod_eq_of_lt
    rw [Nat.div_lt_iff_lt_mul (pB_pos _), Nat.mul_comm, ← Nat.pow_succ]
    have : (sz - 1).succ = sz := by omega
    rw [this]; exact h1
  · exact Nat.div_pos (h2 h0) (pB_pos _)
theorem nt_zero {f : Nat → Int32} {sz V : Nat} (h : nt_ok f sz V) : sz = 0 ↔ V = 0 := by
  obtain ⟨-, h1, h2, -⟩ := h
  constructor
  · intro e; subst e; simpa using h1
  · intro e; subst e
    rcases Nat.eq_zero_or_pos sz with h | h
    · exact h
    · have := h2 h; have := pB_pos (sz - 1); omega
theorem rz_mr (a b : Nat) : rz (rz a * b) = rz (a * b) := by
  have h : a * b = rz a * b * 10 ^ rt a := by
    have := rz_eq a
    calc a * b = rz a * 10 ^ rt a * b := by rw [← this]
      _ = rz a * b * 10 ^ rt a := by rw [Nat.mul_right_comm]
  rw [h, rz_mul]
theorem dl_tele {a b : Nat} (ha : 0 < a) (hb : 0 < b) : dl (rz a * b) + dl a = dl (a * b) + dl (rz a) := by
  have h : a * b = rz a * b * 10 ^ rt a := by
    have := rz_eq a
    calc a * b = rz a * 10 ^ rt a * b := by rw [← this]
      _ = rz a * b * 10 ^ rt a := by rw [Nat.mul_right_comm]
  rw [h, dl_mul (Nat.mul_pos (rz_pos ha) hb), dl_rz ha]
  omega
/-- the digits of X without its last, where that is 0 -/
theorem dg_drop {f : Nat → Int32} {n X : Nat} (h : dg_ok f (n + 1) X) : dg_ok f n (X / 10) := by
  intro i hi
  rw [h i (by omega)]
  have e : n + 1 - 1 - i = 1 + (n - 1 - i) := by omega
  rw [e, Nat.pow_add, Nat.pow_one, Nat.div_div_eq_div_mul]
theorem dg_dropk {f : Nat → Int32} {n k X : Nat} (h : dg_ok f (n + k) X) : dg_ok f n (X / 10 ^ k) := by
  intro i hi
  rw [h i (by omega)]
  have e : n + k - 1 - i = k + (n - 1 - i) := by omega
  rw [e, Nat.pow_add, Nat.div_div_eq_div_mul]
theorem dg_pre {f : Nat → Int32} {L D n : Nat} (h : dg_ok f L D) (hn : n ≤ L) : dg_ok f n (D / 10 ^ (L - n)) := by
  have e : n + (L - n) = L := by omega
  exact dg_dropk (k := L - n) (by rw [e]; exact h)
/-- the last of the first i+1 digits -/
theorem dg_last {D L i : Nat} (h : i < L) : D / 10 ^ (L - (i + 1)) % 10 = D / 10 ^ (L - 1 - i) % 10 := by
  have : L - (i + 1) = L - 1 - i := by omega
  rw [this]
theorem p2_10 (k : Nat) : 2 ^ k ≤ 10 ^ k := Nat.pow_le_pow_left (by decide) k
theorem p5_10 (k : Nat) : 5 ^ k ≤ 10 ^ k := Nat.pow_le_pow_left (by decide) k
theorem p5_7 (k : Nat) : 5 ^ (10 * k) ≤ 10 ^ (7 * k) := by
  rw [Nat.pow_mul, Nat.pow_mul]; exact Nat.pow_le_pow_left (by decide) k
theorem p2_4 (k : Nat) : 2 ^ (10 * k) ≤ 10 ^ (4 * k) := by
  rw [Nat.pow_mul, Nat.pow_mul]; exact Nat.pow_le_pow_left (by decide) k
/-- how many bits -/
def bl (n : Nat) : Nat := if h : 0 < n then bl (n / 2) + 1 else 0
termination_by n
decreasing_by omega
theorem bl_0 : bl 0 = 0 := by rw [bl]; simp
theorem bl_s {n : Nat} (h : 0 < n) : bl n = bl (n / 2) + 1 := by rw [bl]; simp [h]
theorem bl_lt (n : Nat) : n < 2 ^ bl n := by
  induction n using Nat.strongRecOn with
  | ind n ih =>
    rcases Nat.eq_zero_or_pos n with rfl | h
    · rw [bl_0]; decide
    · have := ih (n / 2) (by omega)
      rw [bl_s h, Nat.pow_succ]
      omega
theorem bl_le {n : Nat} (h : 0 < n) : 2 ^ (bl n - 1) ≤ n := by
  induction n using Nat.strongRecOn with
  | ind n ih =>
    rw [bl_s h, Nat.add_sub_cancel]
    rcases Nat.eq_zero_or_pos (n / 2) with h0 | h1
    · rw [h0, bl_0]; exact h
    · have := ih (n / 2) (by omega) h1
      have h2 : bl (n / 2) = (bl (n / 2) - 1) + 1 := by rw [bl_s h1]; omega
      rw [h2, Nat.pow_succ]
      omega
theorem bl_pos {n : Nat} (h : 0 < n) : 0 < bl n := by rw [bl_s h]; omega
theorem p2_lt {a b : Nat} (h : 2 ^ a < 2 ^ b) : a < b := (Nat.pow_lt_pow_iff_right (by decide)).mp h
theorem bl_bound {n L : Nat} (h : n < 2 ^ L) : bl n ≤ L := by
  rcases Nat.eq_zero_or_pos n with rfl | ha
  · rw [bl_0]; omega
  · have h1 := bl_le ha
    have h3 : bl n - 1 < L := p2_lt (by omega)
    omega
theorem bl_ge {n L : Nat} (h : 2 ^ L ≤ n) : L < bl n := by
  have h2 := bl_lt n
  exact p2_lt (by omega)
theorem bl_iff {n L : Nat} : bl n ≤ L ↔ n < 2 ^ L := by
  constructor
  · intro h
    exact Nat.lt_of_lt_of_le (bl_lt n) (Nat.pow_le_pow_right (by decide) h)
  · exact bl_bound
theorem bl_un {n L : Nat} (h1 : n < 2 ^ L) (h2 : 0 < L → 2 ^ (L - 1) ≤ n) : bl n = L := by
  have a := bl_bound h1
  rcases Nat.eq_zero_or_pos L with rfl | h
  · omega
  · have := bl_ge (h2 h); omega
end
section
/-! The nearest: P / M counts units of the least; E places are dropped, q is kept, u is counted up -/
theorem p2_pos (k : Nat) : 0 < 2 ^ k := Nat.pow_pos (by decide)
def nr (sz P M E q : Nat) : Prop := q = P / (M * 2 ^ E) ∧ q < 2 ^ sz ∧ (0 < E → 2 ^ (sz - 1) ≤ q)
theorem nr_lt {sz P M E q E' q' : Nat} (hs : 0 < sz) (h : nr sz P M E q) (h' : nr sz P M E' q') : ¬ E < E' := by
  intro hlt
  obtain ⟨d, rfl⟩ : ∃ d, E' = E + (d + 1) := ⟨E' - E - 1, by omega⟩
  obtain ⟨h1, h2, -⟩ := h
  obtain ⟨h1', -, h3'⟩ := h'
  have h3 := h3' (by omega)
  rw [Nat.pow_add, ← Nat.mul_assoc, ← Nat.div_div_eq_div_mul, ← h1, Nat.pow_succ, Nat.mul_comm (2 ^ d), ← Nat.div_div_eq_div_mul] at h1'
  have h4 : q / 2 / 2 ^ d ≤ q / 2 := Nat.div_le_self _ _
  have h5 : 2 ^ sz = 2 ^ (sz - 1) * 2 := by rw [← Nat.pow_succ]; congr 1; omega
  omega
theorem nr_un {sz P M E q E' q' : Nat} (hs : 0 < sz) (h : nr sz P M E q) (h' : nr sz P M E' q') : E = E' ∧ q = q' := by
  have a := nr_lt hs h h'
  have b := nr_lt hs h' h
  have e : E = E' := by omega
  subst e
  exact ⟨rfl, h.1.trans h'.1.symm⟩
def upP (P M E q : Nat) (b : Prop) : Prop := (2 * q + 1) * (M * 2 ^ E) < 2 * P ∨ ((2 * q + 1) * (M * 2 ^ E) = 2 * P ∧ (b ∨ q % 2 = 1))
def NR (sz inf P M : Nat) (b : Prop) (r : Nat) : Prop := ∃ E q u, nr sz P M E q ∧ ((u = 1 ∧ upP P M E q b) ∨ (u = 0 ∧ ¬ upP P M E q b)) ∧ r = min inf (E * 2 ^ (sz - 1) + q + u)
theorem NR_un {sz inf P M : Nat} {b : Prop} {r r' : Nat} (hs : 0 < sz) (h : NR sz inf P M b r) (h' : NR sz inf P M b r') : r = r' := by
  obtain ⟨E, q, u, h1, h2, h3⟩ := h
  obtain ⟨E', q', u', h1', h2', h3'⟩ := h'
  obtain ⟨rfl, rfl⟩ := nr_un hs h1 h1'
  rcases h2 with ⟨rfl, a⟩ | ⟨rfl, a⟩ <;> rcases h2' with ⟨rfl, a'⟩ | ⟨rfl, a'⟩
  · rw [h3, h3']
  · exact absurd a a'
  · exact absurd a' a
  · rw [h3, h3']
/-- what is kept in two ways is one -/
theorem cn_un {w E q E' q' : Nat} (h2 : q < 2 * w) (h3 : 0 < E → w ≤ q) (h2' : q' < 2 * w) (h3' : 0 < E' → w ≤ q') (h : E * w + q = E' * w + q') : E = E' ∧ q = q' := by
  have key : ∀ {E q E' q' : Nat}, q < 2 * w → (0 < E' → w ≤ q') → E * w + q = E' * w + q' → ¬ E < E' := by
    intro E q E' q' h2 h3' h hlt
    have h5 := h3' (by omega)
    obtain ⟨d, rfl⟩ : ∃ d, E' = E + (d + 1) := ⟨E' - E - 1, by omega⟩
    rw [Nat.add_mul, Nat.add_mul, Nat.one_mul] at h
    omega
  have a := key h2 h3' h
  have b := key h2' h3 h.symm
  have e : E = E' := by omega
  subst e
  exact ⟨rfl, by omega⟩
/-- the numbers that read back to what is kept: (E, m) -/
def inI (sz P M E m : Nat) : Prop :=
  (2 * P < (2 * m + 1) * (M * 2 ^ E) ∨ (2 * P = (2 * m + 1) * (M * 2 ^ E) ∧ m % 2 = 0)) ∧
  ((m = 2 ^ (sz - 1) ∧ 0 < E ∧ (4 * m - 1) * (M * 2 ^ E) ≤ 4 * P) ∨
   (¬ (m = 2 ^ (sz - 1) ∧ 0 < E) ∧ ((2 * m - 1) * (M * 2 ^ E) < 2 * P ∨ ((2 * m - 1) * (M * 2 ^ E) = 2 * P ∧ m % 2 = 0))))
theorem dv_le {P K q : Nat} (hK : 0 < K) (h : q = P / K) : q * K ≤ P ∧ P < (q + 1) * K := by
  subst h
  exact ⟨Nat.div_mul_le_self _ _, by rw [Nat.mul_comm]; exact Nat.lt_mul_div_succ _ hK⟩
theorem dv_eq {P K q : Nat} (h1 : q * K ≤ P) (h2 : P < (q + 1) * K) : q = P / K := by
  symm
  have hK : 0 < K := by
    rcases Nat.eq_zero_or_pos K with h | h
    · subst h; simp at h2
    · exact h
  apply Nat.le_antisymm
  · have := (Nat.div_lt_iff_lt_mul hK).mpr h2
    omega
  · exact (Nat.le_div_iff_mul_le hK).mpr h1
theorem rb_of {sz inf P M r E m : Nat} (hs : 2 ≤ sz) (hM : 0 < M) (h : NR sz inf P M False r) (hm : 0 < m) (hm2 : m < 2 ^ sz) (hc : 0 < E → 2 ^ (sz - 1) ≤ m) (hinf : E * 2 ^ (sz - 1) + m < inf) (hr : r = E * 2 ^ (sz - 1) + m) : inI sz P M E m := by
  obtain ⟨E', q, u, ⟨h1, h2, h3⟩, hu, h4⟩ := h
  have hw : 2 ^ sz = 2 * 2 ^ (sz - 1) := by rw [← Nat.pow_succ']; congr 1; omega
  have hw1 : 2 ^ (sz - 1) = 2 * 2 ^ (sz - 2) := by rw [← Nat.pow_succ']; congr 1; omega
  have hk := p2_pos (sz - 2)
  have hK : 0 < M * 2 ^ E' := Nat.mul_pos hM (p2_pos _)
  obtain ⟨b1, b2⟩ := dv_le hK h1
  have hr2 : E * 2 ^ (sz - 1) + m = E' * 2 ^ (sz - 1) + q + u := by omega
  generalize hwv : 2 ^ (sz - 1) = w at *
  rcases hu with ⟨rfl, hup⟩ | ⟨rfl, hup⟩
  · rcases Nat.lt_or_ge (q + 1) (2 * w) with hq | hq
    · obtain ⟨rfl, rfl⟩ := cn_un (by omega) hc hq (fun z => by have := h3 z; omega) (hr2.trans (by omega) : E * w + m = E' * w + (q + 1))
      refine ⟨Or.inl ?_, Or.inr ⟨fun ⟨z1, z2⟩ => ?_, ?_⟩⟩
      · have e : (2 * (q + 1) + 1) * (M * 2 ^ E) = 2 * ((q + 1) * (M * 2 ^ E)) + M * 2 ^ E := by rw [Nat.add_mul, Nat.mul_assoc]; omega
        omega
      · have := h3 z2; omega
      · have e : 2 * (q + 1) - 1 = 2 * q + 1 := by omega
        rw [e]
        rcases hup with hup | ⟨hup, hf | hodd⟩
        · exact Or.inl hup
        · exact hf.elim
        · exact Or.inr ⟨hup, by omega⟩
    · have hq2 : q + 1 = 2 * w := by omega
      have e0 : E * w + m = (E' + 1) * w + w := by rw [Nat.add_mul]; omega
      obtain ⟨rfl, rfl⟩ := cn_un (by omega) hc (by omega) (fun _ => Nat.le_refl _) e0
      have e2 : M * 2 ^ (E' + 1) = 2 * (M * 2 ^ E') := by rw [Nat.pow_succ, ← Nat.mul_assoc]; omega
      unfold upP at hup
      generalize hKv : M * 2 ^ E' = K at *
      rw [inI, e2]
      refine ⟨Or.inl ?_, Or.inl ⟨hwv.symm, by omega, ?_⟩⟩
      · have e : (2 * m + 1) * (2 * K) = 2 * ((q + 1) * K) + 2 * K := by rw [hq2, Nat.add_mul, Nat.mul_assoc, Nat.mul_assoc, Nat.one_mul]; rw [Nat.mul_left_comm m 2 K]
        omega
      · have e : (4 * m - 1) * (2 * K) = 2 * ((2 * q + 1) * K) := by
          have : 4 * m - 1 = 2 * q + 1 := by omega
          rw [this, Nat.mul_left_comm]
        rcases hup with hup | ⟨hup, -⟩ <;> omega
  · obtain ⟨rfl, rfl⟩ := cn_un (by omega) hc (by omega) h3 (hr2.trans (by omega) : E * w + m = E' * w + q)
    have c1 : ¬ (2 * m + 1) * (M * 2 ^ E) < 2 * P := fun z => hup (Or.inl z)
    have e1 : (2 * m - 1) * (M * 2 ^ E) + (M * 2 ^ E) = 2 * (m * (M * 2 ^ E)) := by
      have a1 : (2 * m - 1) * (M * 2 ^ E) + (M * 2 ^ E) = (2 * m - 1 + 1) * (M * 2 ^ E) := by rw [Nat.add_mul, Nat.one_mul]
      have a2 : 2 * m - 1 + 1 = 2 * m := by omega
      rw [a1, a2, Nat.mul_assoc]
    refine ⟨?_, ?_⟩
    · by_cases c2 : (2 * m + 1) * (M * 2 ^ E) = 2 * P
      · exact Or.inr ⟨c2.symm, by
          have : ¬ m % 2 = 1 := fun z => hup (Or.inr ⟨c2, Or.inr z⟩)
          omega⟩
      · exact Or.inl (by omega)
    · by_cases c3 : m = 2 ^ (sz - 1) ∧ 0 < E
      · refine Or.inl ⟨c3.1, c3.2, ?_⟩
        have e4 : (4 * m - 1) * (M * 2 ^ E) ≤ 4 * m * (M * 2 ^ E) := Nat.mul_le_mul_right _ (by omega)
        rw [Nat.mul_assoc] at e4
        omega
      · exact Or.inr ⟨c3, Or.inl (by omega)⟩
theorem rb_to {sz inf P M r E m : Nat} (hs : 2 ≤ sz) (hM : 0 < M) (h : NR sz inf P M False r) (hm : 0 < m) (hm2 : m < 2 ^ sz) (hc : 0 < E → 2 ^ (sz - 1) ≤ m) (hinf : E * 2 ^ (sz - 1) + m < inf) (hI : inI sz P M E m) : r = E * 2 ^ (sz - 1) + m := by
  have hw : 2 ^ sz = 2 * 2 ^ (sz - 1) := by rw [← Nat.pow_succ']; congr 1; omega
  have hw1 : 2 ^ (sz - 1) = 2 * 2 ^ (sz - 2) := by rw [← Nat.pow_succ']; congr 1; omega
  have hk := p2_pos (sz - 2)
  have hK : 0 < M * 2 ^ E := Nat.mul_pos hM (p2_pos _)
  have key : ∀ {E' q u : Nat}, nr sz P M E' q → ((u = 1 ∧ upP P M E' q False) ∨ (u = 0 ∧ ¬ upP P M E' q False)) → E' * 2 ^ (sz - 1) + q + u = E * 2 ^ (sz - 1) + m → r = E * 2 ^ (sz - 1) + m := by
    intro E' q u a1 a2 a3
    refine NR_un (by omega) h ⟨E', q, u, a1, a2, ?_⟩
    omega
  obtain ⟨hi, lo⟩ := hI
  have e0 : (2 * m + 1) * (M * 2 ^ E) = 2 * (m * (M * 2 ^ E)) + M * 2 ^ E := by rw [Nat.add_mul, Nat.mul_assoc]; omega
  have e1 : (m + 1) * (M * 2 ^ E) = m * (M * 2 ^ E) + M * 2 ^ E := by rw [Nat.add_mul]; omega
  rcases Nat.lt_or_ge P (m * (M * 2 ^ E)) with hlt | hge
  · rcases lo with ⟨l1, l2, l3⟩ | ⟨l1, l2⟩
    · obtain ⟨E1, rfl⟩ : ∃ E1, E = E1 + 1 := ⟨E - 1, by omega⟩
      have e2 : M * 2 ^ (E1 + 1) = 2 * (M * 2 ^ E1) := by rw [Nat.pow_succ, ← Nat.mul_assoc]; omega
      have hK1 : 0 < M * 2 ^ E1 := Nat.mul_pos hM (p2_pos _)
      rw [e2] at hlt l3
      have a1 : (2 ^ sz - 1) * (M * 2 ^ E1) + M * 2 ^ E1 = m * (2 * (M * 2 ^ E1)) := by
        have : (2 ^ sz - 1) * (M * 2 ^ E1) + M * 2 ^ E1 = (2 ^ sz - 1 + 1) * (M * 2 ^ E1) := by rw [Nat.add_mul, Nat.one_mul]
        rw [this]
        have : 2 ^ sz - 1 + 1 = m * 2 := by omega
        rw [this, Nat.mul_assoc]
      have a2 : (4 * m - 1) * (2 * (M * 2 ^ E1)) = 2 * ((2 * (2 ^ sz - 1) + 1) * (M * 2 ^ E1)) := by
        have : 4 * m - 1 = 2 * (2 ^ sz - 1) + 1 := by omega
        rw [this, Nat.mul_left_comm]
      have a3 : (2 * (2 ^ sz - 1) + 1) * (M * 2 ^ E1) = 2 * ((2 ^ sz - 1) * (M * 2 ^ E1)) + M * 2 ^ E1 := by rw [Nat.add_mul, Nat.mul_assoc]; omega
      have a4 : (2 ^ sz - 1 + 1) * (M * 2 ^ E1) = (2 ^ sz - 1) * (M * 2 ^ E1) + M * 2 ^ E1 := by rw [Nat.add_mul]; omega
      refine key (E' := E1) (q := 2 ^ sz - 1) (u := 1) ⟨dv_eq (by omega) (by omega), by omega, fun _ => by omega⟩ (Or.inl ⟨rfl, ?_⟩) ?_
      · rcases Nat.lt_or_ge ((2 * (2 ^ sz - 1) + 1) * (M * 2 ^ E1)) (2 * P) with z | z
        · exact Or.inl z
        · exact Or.inr ⟨by omega, Or.inr (by omega)⟩
      · rw [Nat.add_mul]; omega
    · obtain ⟨k, rfl⟩ : ∃ k, m = k + 1 := ⟨m - 1, by omega⟩
      have e3 : 2 * (k + 1) - 1 = 2 * k + 1 := by omega
      rw [e3] at l2
      have e4 : (2 * k + 1) * (M * 2 ^ E) = 2 * (k * (M * 2 ^ E)) + M * 2 ^ E := by rw [Nat.add_mul, Nat.mul_assoc]; omega
      have e5 : (k + 1) * (M * 2 ^ E) = k * (M * 2 ^ E) + M * 2 ^ E := by rw [Nat.add_mul]; omega
      refine key (E' := E) (q := k) (u := 1) ⟨dv_eq (by omega) (by omega), by omega, fun z => by have := hc z; omega⟩ (Or.inl ⟨rfl, ?_⟩) (by omega)
      rcases l2 with z | ⟨z, z2⟩
      · exact Or.inl z
      · exact Or.inr ⟨z, Or.inr (by omega)⟩
  · refine key (E' := E) (q := m) (u := 0) ⟨dv_eq hge (by omega), hm2, hc⟩ (Or.inr ⟨rfl, ?_⟩) (by omega)
    rintro (z | ⟨z, z2 | z2⟩)
    · rcases hi with y | ⟨y, -⟩ <;> omega
    · exact z2
    · rcases hi with y | ⟨y, y2⟩ <;> omega
/-! where it is made: by a head and what lies below it -/
theorem dv_cross {a b c d : Nat} (hb : 0 < b) (hd : 0 < d) (h : a * d = c * b) : a / b = c / d := by
  have h1 : a / b = a * d / (b * d) := by rw [Nat.mul_div_mul_right _ _ hd]
  have h2 : c / d = c * b / (d * b) := by rw [Nat.mul_div_mul_right _ _ hb]
  rw [h1, h2, h, Nat.mul_comm b d]
theorem lt_cross {a b c d x : Nat} (hb : 0 < b) (hd : 0 < d) (h : a * d = c * b) : x * b < 2 * a ↔ x * d < 2 * c := by
  rw [← Nat.mul_lt_mul_right hd, ← Nat.mul_lt_mul_right (a := b) (b := x * d) hb]
  have e1 : x * b * d = x * d * b := Nat.mul_right_comm _ _ _
  have e2 : 2 * a * d = 2 * c * b := by rw [Nat.mul_assoc, h, Nat.mul_assoc]
  rw [e1, e2]
theorem eq_cross {a b c d x : Nat} (hb : 0 < b) (hd : 0 < d) (h : a * d = c * b) : x * b = 2 * a ↔ x * d = 2 * c := by
  have e1 : x * b * d = x * d * b := Nat.mul_right_comm _ _ _
  have e2 : 2 * a * d = 2 * c * b := by rw [Nat.mul_assoc, h, Nat.mul_assoc]
  constructor
  · intro z
    apply Nat.eq_of_mul_eq_mul_right hb
    rw [← e1, z, e2]
  · intro z
    apply Nat.eq_of_mul_eq_mul_right hd
    rw [e1, z, e2]
/-- the half of what was dropped, by the head alone and whether something lies below it -/
theorem hd_half {num t head rem q k half : Nat} (ht : 0 < t) (hn : num = head * t + rem) (hr : rem < t) (hk : k = 2 * half) (hq : q * k ≤ head) :
    ((2 * q + 1) * (t * k) < 2 * num ↔ (half < head - q * k ∨ (half = head - q * k ∧ 0 < rem))) ∧ ((2 * q + 1) * (t * k) = 2 * num ↔ (half = head - q * k ∧ rem = 0)) := by
  obtain ⟨dr, rfl⟩ : ∃ dr, head = q * k + dr := ⟨head - q * k, by omega⟩
  have e0 : q * k + dr - q * k = dr := by omega
  rw [e0]
  have e1 : (2 * q + 1) * (t * k) = 2 * (q * k * t) + 2 * (half * t) := by
    subst hk
    rw [Nat.add_mul, Nat.one_mul]
    have a1 : 2 * q * (t * (2 * half)) = 2 * (q * (2 * half) * t) := by
      rw [Nat.mul_assoc 2 q, Nat.mul_assoc q, Nat.mul_comm t]
    have a2 : t * (2 * half) = 2 * (half * t) := by rw [Nat.mul_left_comm, Nat.mul_comm t]
    omega
  have e2 : 2 * num = 2 * (q * k * t) + 2 * (dr * t) + 2 * rem := by
    rw [hn, Nat.add_mul]; omega
  rw [e1, e2]
  rcases Nat.lt_trichotomy half dr with h | h | h
  · have a : (half + 1) * t ≤ dr * t := Nat.mul_le_mul_right _ h
    rw [Nat.add_mul, Nat.one_mul] at a
    constructor
    · constructor
      · intro _; exact Or.inl h
      · intro _; omega
    · constructor
      · intro z; omega
      · intro ⟨z, _⟩; omega
  · subst h
    constructor
    · constructor
      · intro z; exact Or.inr ⟨rfl, by omega⟩
      · intro z; rcases z with z | ⟨_, z⟩ <;> omega
    · constructor
      · intro z; exact ⟨rfl, by omega⟩
      · intro ⟨_, z⟩; omega
  · have a : (dr + 1) * t ≤ half * t := Nat.mul_le_mul_right _ h
    rw [Nat.add_mul, Nat.one_mul] at a
    constructor
    · constructor
      · intro z; omega
      · intro z; rcases z with z | ⟨z, _⟩ <;> omega
    · constructor
      · intro z; omega
      · intro ⟨z, _⟩; omega
/-- there is always such an answer -/
theorem nr_ex (sz P M : Nat) (hs : 0 < sz) : ∃ E q, nr sz P M E q ∧ E = bl (P / M) - sz := by
  refine ⟨bl (P / M) - sz, P / M / 2 ^ (bl (P / M) - sz), ⟨by rw [Nat.div_div_eq_div_mul], ?_, fun h => ?_⟩, rfl⟩
  · rw [Nat.div_lt_iff_lt_mul (p2_pos _), ← Nat.pow_add]
    exact Nat.lt_of_lt_of_le (bl_lt _) (Nat.pow_le_pow_right (by decide) (by omega))
  · rw [Nat.le_div_iff_mul_le (p2_pos _), ← Nat.pow_add]
    have hp : 0 < P / M := by
      rcases Nat.eq_zero_or_pos (P / M) with z | z
      · rw [z, bl_0] at h; omega
      · exact z
    have := bl_le hp
    have e : sz - 1 + (bl (P / M) - sz) = bl (P / M) - 1 := by omega
    rw [e]; exact this
theorem NR_head {sz inf P M num t head rem drop E q u half : Nat} {b : Prop} (hM : 0 < M) (ht : 0 < t) (hn : num = head * t + rem) (hr : rem < t) (hx : P * (t * 2 ^ drop) = num * (M * 2 ^ E)) (hd : 2 ^ drop = 2 * half) (hq : q = head / 2 ^ drop)
    (h1 : q < 2 ^ sz) (h2 : 0 < E → 2 ^ (sz - 1) ≤ q)
    (hu : (u = 1 ∧ (half < head - q * 2 ^ drop ∨ (half = head - q * 2 ^ drop ∧ ((b ∨ 0 < rem) ∨ q % 2 = 1)))) ∨ (u = 0 ∧ ¬ (half < head - q * 2 ^ drop ∨ (half = head - q * 2 ^ drop ∧ ((b ∨ 0 < rem) ∨ q % 2 = 1))))) :
    NR sz inf P M b (min inf (E * 2 ^ (sz - 1) + q + u)) := by
  have hB : 0 < M * 2 ^ E := Nat.mul_pos hM (p2_pos _)
  have hT : 0 < t * 2 ^ drop := Nat.mul_pos ht (p2_pos _)
  have hle : q * 2 ^ drop ≤ head := by rw [hq]; exact Nat.div_mul_le_self _ _
  obtain ⟨f1, f2⟩ := hd_half ht hn hr hd hle
  have c1 := lt_cross (x := 2 * q + 1) hB hT hx
  have c2 := eq_cross (x := 2 * q + 1) hB hT hx
  refine ⟨E, q, u, ⟨?_, h1, h2⟩, ?_, rfl⟩
  · have e1 : num / t = head := by rw [hn, Nat.mul_comm head, Nat.mul_add_div ht, Nat.div_eq_of_lt hr, Nat.add_zero]
    rw [dv_cross hB hT hx, ← Nat.div_div_eq_div_mul, e1]
    exact hq
  · rcases hu with ⟨rfl, hu⟩ | ⟨rfl, hu⟩
    · refine Or.inl ⟨rfl, ?_⟩
      unfold upP
      rw [c1, c2, f1, f2]
      rcases hu with z | ⟨z, (zb | zr) | zo⟩
      · exact Or.inl (Or.inl z)
      · rcases Nat.eq_zero_or_pos rem with y | y
        · exact Or.inr ⟨⟨z, y⟩, Or.inl zb⟩
        · exact Or.inl (Or.inr ⟨z, y⟩)
      · exact Or.inl (Or.inr ⟨z, zr⟩)
      · rcases Nat.eq_zero_or_pos rem with y | y
        · exact Or.inr ⟨⟨z, y⟩, Or.inr zo⟩
        · exact Or.inl (Or.inr ⟨z, y⟩)
    · refine Or.inr ⟨rfl, fun z => hu ?_⟩
      unfold upP at z
      rw [c1, c2, f1, f2] at z
      rcases z with (z | ⟨z, y⟩) | ⟨⟨z, y⟩, w⟩
      · exact Or.inl z
      · exact Or.inr ⟨z, Or.inl (Or.inr y)⟩
      · rcases w with w | w
        · exact Or.inr ⟨z, Or.inl (Or.inl w)⟩
        · exact Or.inr ⟨z, Or.inr w⟩
theorem NR_small {sz inf P M : Nat} {b : Prop} (h : 2 * P < M) : NR sz inf P M b 0 := by
  refine ⟨0, 0, 0, ⟨?_, p2_pos _, fun z => by omega⟩, Or.inr ⟨rfl, ?_⟩, by simp⟩
  · rw [Nat.pow_zero, Nat.mul_one, Nat.div_eq_of_lt (by omega)]
  · unfold upP
    rw [Nat.pow_zero, Nat.mul_one]
    rintro (z | ⟨z, -⟩) <;> omega
theorem NR_large {sz inf P M j : Nat} {b : Prop} (hs : 0 < sz) (hj : 0 < j) (h : inf = (j + 1) * 2 ^ (sz - 1)) (hb : sz + j ≤ bl (P / M)) : NR sz inf P M b inf := by
  obtain ⟨E, q, h1, h2⟩ := nr_ex sz P M hs
  have h3 : j ≤ E := by omega
  have h4 := h1.2.2 (by omega)
  have h5 : j * 2 ^ (sz - 1) ≤ E * 2 ^ (sz - 1) := Nat.mul_le_mul_right _ h3
  rw [Nat.add_mul] at h
  by_cases hu : upP P M E q b
  · exact ⟨E, q, 1, h1, Or.inl ⟨rfl, hu⟩, by omega⟩
  · exact ⟨E, q, 0, h1, Or.inr ⟨rfl, hu⟩, by omega⟩
end
section
/-! Contracts of this proof: av the arguments, ws the cells, Ex what else is known of the start; the post speaks of the answer and of the cells behind -/
def c_P (Ex : (Nat → Prop) → State → Prop) (D : va_G) (cl : List vw_C) (tys : List (ClassId × FieldType)) (av : List Value) (ws : va_W) (sz : Nat) : Array Value → State → Prop :=
  va_Pc av (fun U => U.heap.size = sz ∧ va_P D cl ws U.heap ∧ va_K D cl tys U ∧ va_D (fun _ => True) ws ∧ Ex (va_A ws sz) U)
def c_B (D : va_G) (cl : List vw_C) (A : Nat → Prop) (u : va_W) (t : State) : Prop := va_P D cl u t.heap ∧ va_D A u
/-- what Ex must stand: another state with the same heap and tables alike; fewer cells that may change -/
def c_X (Ex : (Nat → Prop) → State → Prop) : Prop := ∀ (A B : Nat → Prop) (u U : State), u.vm.Alike U.vm → (∀ a : Nat, a < u.heap.size → ¬ A a → U.heap[a]? = u.heap[a]?) → (∀ q, B q → A q) → Ex A u → Ex B U
def c_I (l : Launch) (y : MethodName) (wd : List Cond) (rm : Room) (Ex : (Nat → Prop) → State → Prop) (D : va_G) (cl : List vw_C) (tys : List (ClassId × FieldType)) (av : List Value) (ws : va_W) (post : Int32 → va_W → Prop) (mc ms : Nat) : Prop :=
  ∀ sz : Nat, Met l y wd rm (c_P Ex D cl tys av ws sz) (va_Qi post (c_B D cl (va_A ws sz)) (va_A ws sz)) mc ms (va_A ws sz)
def c_L (l : Launch) (y : MethodName) (wd : List Cond) (rm : Room) (Ex : (Nat → Prop) → State → Prop) (D : va_G) (cl : List vw_C) (tys : List (ClassId × FieldType)) (av : List Value) (ws : va_W) (post : Int64 → va_W → Prop) (mc ms : Nat) : Prop :=
  ∀ sz : Nat, Met l y wd rm (c_P Ex D cl tys av ws sz) (va_Ql post (c_B D cl (va_A ws sz)) (va_A ws sz)) mc ms (va_A ws sz)
def c_V (l : Launch) (y : MethodName) (wd : List Cond) (rm : Room) (Ex : (Nat → Prop) → State → Prop) (D : va_G) (cl : List vw_C) (tys : List (ClassId × FieldType)) (av : List Value) (ws : va_W) (post : va_W → Prop) (mc ms : Nat) : Prop :=
  ∀ sz : Nat, Met l y wd rm (c_P Ex D cl tys av ws sz) (va_Qv post (c_B D cl (va_A ws sz)) (va_A ws sz)) mc ms (va_A ws sz)
section EdCalls
variable {p : Program} {l : Launch} {e : Env} {R : Room} {s : State} {m : MethodId} {args : Array Value} {below : List Frame} {meth : Method} {c : Code} {H : Heap} {locs : List Loc} {cells slots : Nat} {Q : State → Prop} {cc bytes : ByteArray} {pc : Nat} {ls : Array Slot} {rest st0 As : List Value} {a : Array Value} {A0 : Nat → Prop} {H0 : Heap} {mc ms n nL maxL index : Nat} {D : va_G} {cl : List vw_C} {tys : List (ClassId × FieldType)} {ws wc wr : va_W} {Ex : (Nat → Prop) → State → Prop} {y : MethodName} {wd Ts : List Cond} {rm : Room} {own C host : String} {b : Nat} {ret : Option FieldType}
theorem c_blind {av : List Value} {sz : Nat} (hX : c_X Ex) : FrameBlind (c_P Ex D cl tys av ws sz) := fun a U g mk h => by
  obtain ⟨h0, h1, h2, h3, h4, h5⟩ := h
  exact ⟨h0, h1, h2, va_K.moved (u := U) (U := U.calling g mk a) (Vm.Alike.refl U.vm) h3, h4, hX _ _ U (U.calling g mk a) (Vm.Alike.refl U.vm) (fun _ _ _ => rfl) (fun _ h => h) h5⟩
/-- the callee's start, out of the caller's world -/
theorem c_pre {av : List Value} (hX : c_X Ex) (hE : Ex A0 s) (hK : va_K D cl tys s) (hP : va_P D cl ws H) (hD : va_D A0 ws) (hS : va_S A0 s.heap H locs) (hA : ∀ q, s.heap.size ≤ q → A0 q)
    (isC : List Nat) (hC : isC.map (fun i => ws[i]?) = wc.map some) (hn1 : va_nd isC = true) (U : State) (hU : U.heap = H) (hW : s.WarmedH U.vm) : c_P Ex D cl tys av wc H.size av.toArray U := by
  have hF := va_free (wc := wc) hD hS hA isC hC
  refine ⟨rfl, by rw [hU], ?_, va_K.moved hW.alike hK, (hD.sub isC hn1 hC).weaken (fun _ _ _ _ => trivial), hX A0 _ s U hW.alike (fun a h1 h2 => by rw [hU]; exact hS.2.1 a h1 h2) hF hE⟩
  rw [hU]
  intro k q hq
  have h1 : (isC.map (fun i => ws[i]?))[k]? = some (some q) := by rw [hC, List.getElem?_map, hq]; rfl
  rw [List.getElem?_map] at h1
  cases hk : isC[k]? with
  | none => rw [hk] at h1; cases h1
  | some i => rw [hk] at h1; exact hP i q (Option.some.inj h1)
theorem c_fi {post : Int32 → va_W → Prop} (hr : va_Run p l e R s m args below meth c H locs cells slots mc ms (F0 m pc ls st0) rest (va_Qi post (c_B D cl (va_A wc H.size)) (va_A wc H.size) a) (va_A wc H.size))
    (hP : va_P D cl ws H) (hD : va_D A0 ws) (hS : va_S A0 H0 H locs) (hA : ∀ q, H0.size ≤ q → A0 q) (isC isR : List Nat) (hC : isC.map (fun i => ws[i]?) = wc.map some) (hR : isR.map (fun i => ws[i]?) = wr.map some) (hn2 : va_nd isR = true) (hdis : ∀ i ∈ isR, i ∉ isC)
    (kk : ∀ (r : Int32) (u : va_W) (H1 : Heap) (locs1 : List Loc), post r u → va_P D cl (wr ++ u) H1 → va_D A0 (wr ++ u) → va_S A0 H0 H1 locs1 → W p l e R s m args below meth c H1 locs1 (cells + mc) (slots + ms) Q (F0 m (pc + 3) ls (.int r :: rest))) : W p l e R s m args below meth c H locs cells slots Q (F0 m pc ls st0) := by
  have hF := va_free (wc := wc) hD hS hA isC hC
  refine va_calli hr hS (fun q _ h => hF q h) hF (fun r u t H1 locs1 ht hvm hp hB hz hk hS1 => ?_)
  obtain ⟨hP1, hD1⟩ := hB
  rw [ht] at hP1
  obtain ⟨hP2, hD2⟩ := va_join hP hD isC isR hC hR hn2 hdis hk hF hP1 hD1
  exact kk r u H1 locs1 hp hP2 hD2 hS1
theorem c_fl {post : Int64 → va_W → Prop} (hr : va_Run p l e R s m args below meth c H locs cells slots mc ms (F0 m pc ls st0) rest (va_Ql post (c_B D cl (va_A wc H.size)) (va_A wc H.size) a) (va_A wc H.size))
    (hP : va_P D cl ws H) (hD : va_D A0 ws) (hS : va_S A0 H0 H locs) (hA : ∀ q, H0.size ≤ q → A0 q) (isC isR : List Nat) (hC : isC.map (fun i => ws[i]?) = wc.map some) (hR : isR.map (fun i => ws[i]?) = wr.map some) (hn2 : va_nd isR = true) (hdis : ∀ i ∈ isR, i ∉ isC)
    (kk : ∀ (r : Int64) (u : va_W) (H1 : Heap) (locs1 : List Loc), post r u → va_P D cl (wr ++ u) H1 → va_D A0 (wr ++ u) → va_S A0 H0 H1 locs1 → W p l e R s m args below meth c H1 locs1 (cells + mc) (slots + ms) Q (F0 m (pc + 3) ls (.long r :: rest))) : W p l e R s m args below meth c H locs cells slots Q (F0 m pc ls st0) := by
  have hF := va_free (wc := wc) hD hS hA isC hC
  refine va_calll hr hS (fun q _ h => hF q h) hF (fun r u t H1 locs1 ht hvm hp hB hz hk hS1 => ?_)
  obtain ⟨hP1, hD1⟩ := hB
  rw [ht] at hP1
  obtain ⟨hP2, hD2⟩ := va_join hP hD isC isR hC hR hn2 hdis hk hF hP1 hD1
  exact kk r u H1 locs1 hp hP2 hD2 hS1
theorem c_fv {post : va_W → Prop} (hr : va_Run p l e R s m args below meth c H locs cells slots mc ms (F0 m pc ls st0) rest (va_Qv post (c_B D cl (va_A wc H.size)) (va_A wc H.size) a) (va_A wc H.size))
    (hP : va_P D cl ws H) (hD : va_D A0 ws) (hS : va_S A0 H0 H locs) (hA : ∀ q, H0.size ≤ q → A0 q) (isC isR : List Nat) (hC : isC.map (fun i => ws[i]?) = wc.map some) (hR : isR.map (fun i => ws[i]?) = wr.map some) (hn2 : va_nd isR = true) (hdis : ∀ i ∈ isR, i ∉ isC)
    (kk : ∀ (u : va_W) (H1 : Heap) (locs1 : List Loc), post u → va_P D cl (wr ++ u) H1 → va_D A0 (wr ++ u) → va_S A0 H0 H1 locs1 → W p l e R s m args below meth c H1 locs1 (cells + mc) (slots + ms) Q (F0 m (pc + 3) ls rest)) : W p l e R s m args below meth c H locs cells slots Q (F0 m pc ls st0) := by
  have hF := va_free (wc := wc) hD hS hA isC hC
  refine va_callv hr hS (fun q _ h => hF q h) hF (fun u t H1 locs1 ht hvm hp hB hz hk hS1 => ?_)
  obtain ⟨hP1, hD1⟩ := hB
  rw [ht] at hP1
  obtain ⟨hP2, hD2⟩ := va_join hP hD isC isR hC hR hn2 hdis hk hF hP1 hD1
  exact kk u H1 locs1 hp hP2 hD2 hS1
end EdCalls
end
section
-- ===== PART A: goes FIRST, ahead of the names: the tables' words, and 'selects' of the private methods out of them =====
/-- a private method of a class that the tables say can be made, by its rows of tables_1 -/
def lw_okq (q : MethodName × Nat) : Prop := (q.1.cls ≠ "java/lang/invoke/MethodHandle" ∧ q.1.cls ≠ "java/lang/invoke/VarHandle") ∧ Cond.instantiable q.1.cls q.2 ∈ tables_1 ∧ Cond.privateMethod q.1 ∈ tables_1 ∧ Cond.instanceMethod q.1 ∈ tables_1
theorem lw_p0 : lw_okq (⟨"ExactDigits", "giveScratch", "(I)V"⟩, 5) := ⟨⟨by decide +kernel, by decide +kernel⟩, List.mem_of_getElem? (i := 18) (by decide +kernel), List.mem_of_getElem? (i := 67) (by decide +kernel), List.mem_of_getElem? (i := 68) (by decide +kernel)⟩
theorem lw_p1 : lw_okq (⟨"ExactDigits", "dropZerosBehind", "()V"⟩, 5) := ⟨⟨by decide +kernel, by decide +kernel⟩, List.mem_of_getElem? (i := 18) (by decide +kernel), List.mem_of_getElem? (i := 88) (by decide +kernel), List.mem_of_getElem? (i := 89) (by decide +kernel)⟩
theorem lw_p2 : lw_okq (⟨"ExactDigits", "nearestToScratch", "(IZLExactDigits$Format;)J"⟩, 5) := ⟨⟨by decide +kernel, by decide +kernel⟩, List.mem_of_getElem? (i := 18) (by decide +kernel), List.mem_of_getElem? (i := 111) (by decide +kernel), List.mem_of_getElem? (i := 112) (by decide +kernel)⟩
theorem lw_p3 : lw_okq (⟨"ExactDigits$Natural", "times", "(I)V"⟩, 2) := ⟨⟨by decide +kernel, by decide +kernel⟩, List.mem_of_getElem? (i := 26) (by decide +kernel), List.mem_of_getElem? (i := 123) (by decide +kernel), List.mem_of_getElem? (i := 124) (by decide +kernel)⟩
theorem lw_p4 : lw_okq (⟨"ExactDigits$Natural", "digitAt", "(I)I"⟩, 2) := ⟨⟨by decide +kernel, by decide +kernel⟩, List.mem_of_getElem? (i := 26) (by decide +kernel), List.mem_of_getElem? (i := 134) (by decide +kernel), List.mem_of_getElem? (i := 135) (by decide +kernel)⟩
theorem lw_p5 : lw_okq (⟨"java/lang/Throwable", "fillInStackTrace", "(I)Ljava/lang/Throwable;"⟩, 6) := ⟨⟨by decide +kernel, by decide +kernel⟩, List.mem_of_getElem? (i := 208) (by decide +kernel), List.mem_of_getElem? (i := 206) (by decide +kernel), List.mem_of_getElem? (i := 207) (by decide +kernel)⟩
theorem lw_p6 : lw_okq (⟨"ExactDigits", "giveExact", "(JLExactDigits$Format;)V"⟩, 5) := ⟨⟨by decide +kernel, by decide +kernel⟩, List.mem_of_getElem? (i := 18) (by decide +kernel), List.mem_of_getElem? (i := 233) (by decide +kernel), List.mem_of_getElem? (i := 234) (by decide +kernel)⟩
theorem lw_p7 : lw_okq (⟨"ExactDigits", "shorten", "(JLExactDigits$Format;)V"⟩, 5) := ⟨⟨by decide +kernel, by decide +kernel⟩, List.mem_of_getElem? (i := 18) (by decide +kernel), List.mem_of_getElem? (i := 252) (by decide +kernel), List.mem_of_getElem? (i := 253) (by decide +kernel)⟩
theorem lw_p8 : lw_okq (⟨"ExactDigits", "neighbourReadBack", "(IJLExactDigits$Format;)J"⟩, 5) := ⟨⟨by decide +kernel, by decide +kernel⟩, List.mem_of_getElem? (i := 18) (by decide +kernel), List.mem_of_getElem? (i := 256) (by decide +kernel), List.mem_of_getElem? (i := 257) (by decide +kernel)⟩
theorem lw_p9 : lw_okq (⟨"ExactDigits", "firstDigits", "(I)J"⟩, 5) := ⟨⟨by decide +kernel, by decide +kernel⟩, List.mem_of_getElem? (i := 18) (by decide +kernel), List.mem_of_getElem? (i := 260) (by decide +kernel), List.mem_of_getElem? (i := 261) (by decide +kernel)⟩
theorem lw_p10 : lw_okq (⟨"ExactDigits", "isNearerAbove", "(IJ)Z"⟩, 5) := ⟨⟨by decide +kernel, by decide +kernel⟩, List.mem_of_getElem? (i := 18) (by decide +kernel), List.mem_of_getElem? (i := 265) (by decide +kernel), List.mem_of_getElem? (i := 266) (by decide +kernel)⟩
theorem lw_p11 : lw_okq (⟨"ExactDigits", "readsBack", "(JIJLExactDigits$Format;)Z"⟩, 5) := ⟨⟨by decide +kernel, by decide +kernel⟩, List.mem_of_getElem? (i := 18) (by decide +kernel), List.mem_of_getElem? (i := 269) (by decide +kernel), List.mem_of_getElem? (i := 270) (by decide +kernel)⟩
theorem lw_p12 : lw_okq (⟨"ExactDigits", "append", "(III)V"⟩, 5) := ⟨⟨by decide +kernel, by decide +kernel⟩, List.mem_of_getElem? (i := 18) (by decide +kernel), List.mem_of_getElem? (i := 300) (by decide +kernel), List.mem_of_getElem? (i := 301) (by decide +kernel)⟩
theorem lw_p13 : lw_okq (⟨"ExactDigits", "keepFirstAndOneMore", "(I)V"⟩, 5) := ⟨⟨by decide +kernel, by decide +kernel⟩, List.mem_of_getElem? (i := 18) (by decide +kernel), List.mem_of_getElem? (i := 325) (by decide +kernel), List.mem_of_getElem? (i := 326) (by decide +kernel)⟩
theorem lw_p14 : lw_okq (⟨"ExactDigits", "keepFirst", "(I)V"⟩, 5) := ⟨⟨by decide +kernel, by decide +kernel⟩, List.mem_of_getElem? (i := 18) (by decide +kernel), List.mem_of_getElem? (i := 329) (by decide +kernel), List.mem_of_getElem? (i := 330) (by decide +kernel)⟩
theorem lw_p15 : lw_okq (⟨"ExactDigitsModel", "isNumber", "(JZ)Z"⟩, 10) := ⟨⟨by decide +kernel, by decide +kernel⟩, List.mem_of_getElem? (i := 348) (by decide +kernel), List.mem_of_getElem? (i := 450) (by decide +kernel), List.mem_of_getElem? (i := 451) (by decide +kernel)⟩
def lw_privs_1 : List (MethodName × Nat) := [(⟨"ExactDigits", "giveScratch", "(I)V"⟩, 5), (⟨"ExactDigits", "dropZerosBehind", "()V"⟩, 5), (⟨"ExactDigits", "nearestToScratch", "(IZLExactDigits$Format;)J"⟩, 5), (⟨"ExactDigits$Natural", "times", "(I)V"⟩, 2), (⟨"ExactDigits$Natural", "digitAt", "(I)I"⟩, 2), (⟨"java/lang/Throwable", "fillInStackTrace", "(I)Ljava/lang/Throwable;"⟩, 6), (⟨"ExactDigits", "giveExact", "(JLExactDigits$Format;)V"⟩, 5), (⟨"ExactDigits", "shorten", "(JLExactDigits$Format;)V"⟩, 5), (⟨"ExactDigits", "neighbourReadBack", "(IJLExactDigits$Format;)J"⟩, 5), (⟨"ExactDigits", "firstDigits", "(I)J"⟩, 5), (⟨"ExactDigits", "isNearerAbove", "(IJ)Z"⟩, 5), (⟨"ExactDigits", "readsBack", "(JIJLExactDigits$Format;)Z"⟩, 5), (⟨"ExactDigits", "append", "(III)V"⟩, 5), (⟨"ExactDigits", "keepFirstAndOneMore", "(I)V"⟩, 5), (⟨"ExactDigits", "keepFirst", "(I)V"⟩, 5), (⟨"ExactDigitsModel", "isNumber", "(JZ)Z"⟩, 10)]
theorem lw_r1 : ∀ q ∈ lw_privs_1, lw_okq q := List.forall_mem_cons.mpr ⟨lw_p0, List.forall_mem_cons.mpr ⟨lw_p1, List.forall_mem_cons.mpr ⟨lw_p2, List.forall_mem_cons.mpr ⟨lw_p3, List.forall_mem_cons.mpr ⟨lw_p4, List.forall_mem_cons.mpr ⟨lw_p5, List.forall_mem_cons.mpr ⟨lw_p6, List.forall_mem_cons.mpr ⟨lw_p7, List.forall_mem_cons.mpr ⟨lw_p8, List.forall_mem_cons.mpr ⟨lw_p9, List.forall_mem_cons.mpr ⟨lw_p10, List.forall_mem_cons.mpr ⟨lw_p11, List.forall_mem_cons.mpr ⟨lw_p12, List.forall_mem_cons.mpr ⟨lw_p13, List.forall_mem_cons.mpr ⟨lw_p14, List.forall_mem_cons.mpr ⟨lw_p15, fun _ h => absurd h List.not_mem_nil⟩⟩⟩⟩⟩⟩⟩⟩⟩⟩⟩⟩⟩⟩⟩⟩
theorem lw_p16 : lw_okq (⟨"ExactDigitsModel", "first", "(IZ)V"⟩, 10) := ⟨⟨by decide +kernel, by decide +kernel⟩, List.mem_of_getElem? (i := 348) (by decide +kernel), List.mem_of_getElem? (i := 473) (by decide +kernel), List.mem_of_getElem? (i := 474) (by decide +kernel)⟩
theorem lw_p17 : lw_okq (⟨"ExactDigitsModel", "isIn", "(Z)Z"⟩, 10) := ⟨⟨by decide +kernel, by decide +kernel⟩, List.mem_of_getElem? (i := 348) (by decide +kernel), List.mem_of_getElem? (i := 482) (by decide +kernel), List.mem_of_getElem? (i := 483) (by decide +kernel)⟩
theorem lw_p18 : lw_okq (⟨"ExactDigitsModel", "kept", "()I"⟩, 10) := ⟨⟨by decide +kernel, by decide +kernel⟩, List.mem_of_getElem? (i := 348) (by decide +kernel), List.mem_of_getElem? (i := 504) (by decide +kernel), List.mem_of_getElem? (i := 505) (by decide +kernel)⟩
theorem lw_p19 : lw_okq (⟨"ExactDigitsModel", "ended", "(IZ)I"⟩, 10) := ⟨⟨by decide +kernel, by decide +kernel⟩, List.mem_of_getElem? (i := 348) (by decide +kernel), List.mem_of_getElem? (i := 516) (by decide +kernel), List.mem_of_getElem? (i := 517) (by decide +kernel)⟩
theorem lw_p20 : lw_okq (⟨"ExactDigitsModel", "bits", "()I"⟩, 10) := ⟨⟨by decide +kernel, by decide +kernel⟩, List.mem_of_getElem? (i := 348) (by decide +kernel), List.mem_of_getElem? (i := 548) (by decide +kernel), List.mem_of_getElem? (i := 549) (by decide +kernel)⟩
theorem lw_p21 : lw_okq (⟨"ExactDigitsModel", "ones", "()J"⟩, 10) := ⟨⟨by decide +kernel, by decide +kernel⟩, List.mem_of_getElem? (i := 348) (by decide +kernel), List.mem_of_getElem? (i := 552) (by decide +kernel), List.mem_of_getElem? (i := 553) (by decide +kernel)⟩
def lw_privs_2 : List (MethodName × Nat) := [(⟨"ExactDigitsModel", "first", "(IZ)V"⟩, 10), (⟨"ExactDigitsModel", "isIn", "(Z)Z"⟩, 10), (⟨"ExactDigitsModel", "kept", "()I"⟩, 10), (⟨"ExactDigitsModel", "ended", "(IZ)I"⟩, 10), (⟨"ExactDigitsModel", "bits", "()I"⟩, 10), (⟨"ExactDigitsModel", "ones", "()J"⟩, 10)]
theorem lw_r2 : ∀ q ∈ lw_privs_2, lw_okq q := List.forall_mem_cons.mpr ⟨lw_p16, List.forall_mem_cons.mpr ⟨lw_p17, List.forall_mem_cons.mpr ⟨lw_p18, List.forall_mem_cons.mpr ⟨lw_p19, List.forall_mem_cons.mpr ⟨lw_p20, List.forall_mem_cons.mpr ⟨lw_p21, fun _ h => absurd h List.not_mem_nil⟩⟩⟩⟩⟩⟩
def lw_privs : List (MethodName × Nat) := lw_privs_1 ++ (lw_privs_2)
def lw_tbl : List Cond := k2_sels lw_privs ++ tables_1
theorem lw_privs_ok : ∀ q ∈ lw_privs, lw_okq q := by
  show ∀ q ∈ lw_privs_1 ++ (lw_privs_2), lw_okq q
  exact List.forall_mem_append.mpr ⟨lw_r1, lw_r2⟩
end
