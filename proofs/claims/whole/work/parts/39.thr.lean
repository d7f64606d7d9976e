/-! methods that throw: what is thrown, the cells as they were -/
abbrev xNm : List String := ["java/lang/RuntimeException", "java/lang/Exception"]
abbrev rmx_ (k w : Nat) : Room := { frames := k, cells := 1, slots := 6, locals := w }
theorem gw_of {ws : List Cond} (h : ∀ w ∈ ws.filter goodWord, w ∈ lw_tbl) : ∀ w ∈ ws.filter goodWord, w ∈ gw := fun w hw => List.mem_filter.mpr ⟨h w hw, (List.mem_filter.mp hw).2⟩
theorem ta_IA : ∀ w ∈ (vx_at0 "ExactDigits" 60 xIA xNm).filter goodWord, w ∈ gw := gw_of (by decide +kernel)
theorem ta_AE : ∀ w ∈ (vx_at0 "ExactDigits" 106 xAE xNm).filter goodWord, w ∈ gw := gw_of (by decide +kernel)
abbrev tB (cls : String) : List Cond := [.castable cls cls, .declares ⟨"java/lang/RuntimeException", "<init>", "()V"⟩, .declares ⟨"java/lang/Exception", "<init>", "()V"⟩, .declares ⟨"java/lang/Throwable", "<init>", "()V"⟩]
theorem tb_IA : ∀ w ∈ (vx_at0 "ExactDigits" 60 xIA xNm).filter (fun w => !goodWord w), w ∈ tB xIA := by decide +kernel
theorem tb_AE : ∀ w ∈ (vx_at0 "ExactDigits" 106 xAE xNm).filter (fun w => !goodWord w), w ∈ tB xAE := by decide +kernel
theorem tg_IA : ∀ w ∈ Cond.classLink "ExactDigits" 58 xIA :: Cond.initialized xIA :: vx_at0 "ExactDigits" 60 xIA xNm, vx_ot w = true := by decide +kernel
theorem tg_AE : ∀ w ∈ Cond.classLink "ExactDigits" 104 xAE :: Cond.initialized xAE :: vx_at0 "ExactDigits" 106 xAE xNm, vx_ot w = true := by decide +kernel
theorem eW_IA {args : Array Value} {s : State} (h : eW s) : ∀ w ∈ tB xIA, w.before args s = true :=
  vx_c (va_Nw.use rfl h.1) (vx_c (va_Nw.use rfl h.2.2.1) (vx_c (va_Nw.use rfl h.2.2.2.1) (vx_c (va_Nw.use rfl h.2.2.2.2.1) vx_n)))
theorem eW_AE {args : Array Value} {s : State} (h : eW s) : ∀ w ∈ tB xAE, w.before args s = true :=
  vx_c (va_Nw.use rfl h.2.1) (vx_c (va_Nw.use rfl h.2.2.1) (vx_c (va_Nw.use rfl h.2.2.2.1) (vx_c (va_Nw.use rfl h.2.2.2.2.1) vx_n)))
def c_XC (D : va_G) (cl : List vw_C) (A : Nat → Prop) (ws : va_W) (cls : String) : String → State → State → Prop := vx_X (fun u : va_W => u = ws) (fun E u t => E = cls ∧ c_B D cl A u t) A
def c_T (l : Launch) (y : MethodName) (wd : List Cond) (rm : Room) (Ex : (Nat → Prop) → State → Prop) (D : va_G) (cl : List vw_C) (tys : List (ClassId × FieldType)) (av : List Value) (ws : va_W) (cls : String) : Prop :=
  ∀ sz : Nat, vx_Met l y wd rm (c_P Ex D cl tys av ws sz) (va_Qi (fun (_ : Int32) (_ : va_W) => False) (c_B D cl (va_A ws sz)) (va_A ws sz)) (c_XC D cl (va_A ws sz) ws cls) 1 6 (va_A ws sz)
def c_TL (l : Launch) (y : MethodName) (wd : List Cond) (rm : Room) (Ex : (Nat → Prop) → State → Prop) (D : va_G) (cl : List vw_C) (tys : List (ClassId × FieldType)) (av : List Value) (ws : va_W) (cls : String) : Prop :=
  ∀ sz : Nat, vx_Met l y wd rm (c_P Ex D cl tys av ws sz) (va_Ql (fun (_ : Int64) (_ : va_W) => False) (c_B D cl (va_A ws sz)) (va_A ws sz)) (c_XC D cl (va_A ws sz) ws cls) 1 6 (va_A ws sz)
theorem c_xc {D : va_G} {cl : List vw_C} {A : Nat → Prop} {ws : va_W} {cls : String} {s t : State} {H : Heap} {locs : List Loc} (hP : va_P D cl ws H) (hD : va_D A ws) (hS : va_S A s.heap H locs) (hz : H.size ≤ t.heap.size) (hk : ∀ q : Nat, q < H.size → t.heap[q]? = H[q]?) : c_XC D cl A ws cls cls s t :=
  ⟨ws, rfl, ⟨rfl, hP.kept (fun k q hq => hk _ (vx_lt hP hq)), hD⟩, Nat.le_trans hS.1 hz, fun q h1 h2 => by rw [hk q (Nat.lt_of_lt_of_le h1 hS.1)]; exact hS.2.1 q h1 h2⟩
