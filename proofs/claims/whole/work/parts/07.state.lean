/-! What is known of the statics: the powers of five; the two formats (0 double, 1 float); what a throwable reads -/
abbrev tyS (cB cI cJ : ClassId) : List (ClassId × FieldType) := [(cB, .byte), (cI, .int), (cJ, .long)]
def fbz (k : Nat) : Nat := if k = 0 then 52 else 23
def lez (k : Nat) : Int := if k = 0 then -1074 else -149
def mkz (k : Nat) : Nat := if k = 0 then 9223372036854775807 else 2147483647
def ifz (k : Nat) : Nat := if k = 0 then 9218868437227405312 else 2139095040
abbrev fOD : String := "LExactDigits$Format;"
abbrev xIA : String := "java/lang/IllegalArgumentException"
abbrev xAE : String := "java/lang/ArithmeticException"
/-- words of the tables that may warm -/
def eW (U : State) : Prop := va_Nw (.castable xIA xIA) U ∧ va_Nw (.castable xAE xAE) U ∧
  va_Nw (.declares ⟨"java/lang/RuntimeException", "<init>", "()V"⟩) U ∧ va_Nw (.declares ⟨"java/lang/Exception", "<init>", "()V"⟩) U ∧ va_Nw (.declares ⟨"java/lang/Throwable", "<init>", "()V"⟩) U ∧
  va_Nw (.methodLinkNest "ExactDigits" 15 m_Na_init "ExactDigits") U ∧ va_Nw (.methodLinkNest "ExactDigitsModel" 9 m_Ro_init "ExactDigitsModel") U ∧ va_Nw (.methodLinkNest "ExactDigitsModel" 27 m_De_init "ExactDigitsModel") U
theorem eW_w {u U : State} (hW : u.WarmedH U.vm) (h : eW u) : eW U := by
  obtain ⟨h1, h2, h3, h4, h5, h6, h7, h8⟩ := h
  exact ⟨va_Nw.warmC hW h1, va_Nw.warmC hW h2, va_Nw.warmD hW h3, va_Nw.warmD hW h4, va_Nw.warmD hW h5, va_Nw.warmM hW h6, va_Nw.warmM hW h7, va_Nw.warmM hW h8⟩
def eX (t5 : Nat) (ad : Nat → Nat) (A : Nat → Prop) (U : State) : Prop :=
  va_Z "ExactDigits$Natural" "POWERS_OF_FIVE" "[I" (.ref t5) A U U.heap ∧ va_T .int t5 13 (fun j => .int (iI ((5 ^ j : Nat) : Int))) A U U.heap ∧
  va_Z "ExactDigits$Format" "DOUBLE" fOD (.ref (ad 0)) A U U.heap ∧ va_Z "ExactDigits$Format" "FLOAT" fOD (.ref (ad 1)) A U U.heap ∧
  (∀ k, k < 2 → va_O "ExactDigits$Format" (ad k) A U U.heap) ∧
  va_Ef 2 "ExactDigits$Format" "fractionBits" "I" (fun k => .int (iI ((fbz k : Nat) : Int))) ad A U U.heap ∧
  va_Ef 2 "ExactDigits$Format" "leastExponent" "I" (fun k => .int (iI (lez k))) ad A U U.heap ∧
  va_Ef 2 "ExactDigits$Format" "sizeMask" "J" (fun k => .long (jI ((mkz k : Nat) : Int))) ad A U U.heap ∧
  va_Ef 2 "ExactDigits$Format" "infinite" "J" (fun k => .long (jI ((ifz k : Nat) : Int))) ad A U U.heap ∧
  vx_Zq Bundle.tN "UNASSIGNED_STACK" Bundle.steD A U U.heap ∧ vx_Zq Bundle.tN "SUPPRESSED_SENTINEL" Bundle.listD A U U.heap ∧ eW U
theorem eX_X (t5 : Nat) (ad : Nat → Nat) : c_X (eX t5 ad) := by
  intro A B u U hW hq hAB h
  have hvm := hW.alike
  obtain ⟨h1, h2, h3, h4, h5, h6, h7, h8, h9, h10, h11, h12⟩ := h
  exact ⟨((h1.moved hvm).kept hq).narrow hAB, ((h2.moved hvm).kept hq).narrow hAB, ((h3.moved hvm).kept hq).narrow hAB, ((h4.moved hvm).kept hq).narrow hAB, fun k hk => (((h5 k hk).moved hvm).kept hq).narrow hAB,
    ((h6.moved hvm).kept hq).narrow hAB, ((h7.moved hvm).kept hq).narrow hAB, ((h8.moved hvm).kept hq).narrow hAB, ((h9.moved hvm).kept hq).narrow hAB, ((h10.moved hvm).kept hq).narrow hAB, ((h11.moved hvm).kept hq).narrow hAB, eW_w hW h12⟩
/-- rooms -/
abbrev rm_ (k w : Nat) : Room := { frames := k, cells := 0, slots := 0, locals := w }
/-- words of calls -/
theorem gV {X : Cond} {own C : String} {i : Nat} {y : MethodName} {cc : ByteArray} {n : Nat} {r : Option FieldType} (h1 : Cond.methodLink own i y ∈ gw) (h2 : Cond.instanceMethod y ∈ gw) (h3 : Cond.selects C y y ∈ gw) (h4 : Cond.initialized C ∈ gw) (h5 : Cond.code y cc n r ∈ gw) : GoodIn (X :: gw) (wsV own i C y (Cond.code y cc n r :: gw)) := gw_good (by
  intro w hw
  unfold wsV at hw
  rcases List.mem_append.mp hw with hw | hw
  · simp only [List.mem_cons, List.not_mem_nil, or_false] at hw
    rcases hw with rfl | rfl | rfl | rfl
    · exact h1
    · exact h2
    · exact h3
    · exact h4
  · rcases List.mem_cons.mp hw with rfl | hw
    · exact h5
    · exact hw)
theorem gS {X : Cond} {own : String} {i : Nat} {y : MethodName} {cc : ByteArray} {n : Nat} {r : Option FieldType} (h1 : Cond.methodLink own i y ∈ gw) (h2 : Cond.static y ∈ gw) (h4 : Cond.initialized y.cls ∈ gw) (h5 : Cond.code y cc n r ∈ gw) : GoodIn (X :: gw) (va_wsS own i y (Cond.code y cc n r :: gw)) := gw_good (by
  intro w hw
  unfold va_wsS at hw
  rcases List.mem_append.mp hw with hw | hw
  · simp only [List.mem_cons, List.not_mem_nil, or_false] at hw
    rcases hw with rfl | rfl | rfl
    · exact h1
    · exact h2
    · exact h4
  · rcases List.mem_cons.mp hw with rfl | hw
    · exact h5
    · exact hw)
