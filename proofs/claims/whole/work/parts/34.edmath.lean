/-! the number of an ExactDigits: D its digits without zeros behind, dl D of them -/
def nm_ok (g : Nat → Int32) (X : Nat) : Prop := dl X ≤ 1200 ∧ rz X = X ∧ dg_ok g (dl X) X
theorem nm_0 (g : Nat → Int32) : nm_ok g 0 := ⟨by rw [dl_0]; omega, rz_0, fun i hi => by rw [dl_0] at hi; omega⟩
theorem hdb_fit (V : Nat) (place : Int) : fits .boolean (.int (iI (hdb V place))) = true := by
  unfold hdb
  split <;> decide +kernel
/-- what is given anew out of V: its first 1200 digits, no zeros behind -/
def gvD (V : Nat) : Nat := rz (V / 10 ^ (dl V - 1200))
theorem gv_dl (V : Nat) : dl (V / 10 ^ (dl V - 1200)) = min (dl V) 1200 := by rw [dl_div]; omega
theorem gv_lt (V : Nat) : V / 10 ^ (dl V - 1200) < 10 ^ min (dl V) 1200 := by have := dl_lt (V / 10 ^ (dl V - 1200)); rwa [gv_dl] at this
theorem gv_ge {V : Nat} (h : 0 < min (dl V) 1200) : 10 ^ (min (dl V) 1200 - 1) ≤ V / 10 ^ (dl V - 1200) := by
  have h2 : 0 < V / 10 ^ (dl V - 1200) := by
    rcases Nat.eq_zero_or_pos (V / 10 ^ (dl V - 1200)) with z | z
    · have := gv_dl V; rw [z, dl_0] at this; omega
    · exact z
  have := dl_le h2; rwa [gv_dl] at this
theorem gv_0 {V : Nat} : V / 10 ^ (dl V - 1200) = 0 ↔ V = 0 := by
  constructor
  · intro h
    have := gv_dl V
    rw [h, dl_0] at this
    exact dl_eq0 (by omega)
  · rintro rfl; simp
theorem cp_dg {g : Nat → Int32} {V : Nat} (h : cp_ok g V) : dg_ok g (min (dl V) 1200) (V / 10 ^ (dl V - 1200)) := by
  intro i hi
  rw [h i (by omega) (by omega), Nat.div_div_eq_div_mul, ← Nat.pow_add]
  have : dl V - 1200 + (min (dl V) 1200 - 1 - i) = dl V - 1 - i := by omega
  rw [this]
theorem gv_rz (V : Nat) : rz (gvD V) = gvD V := rz_rz _
theorem gv_le (V : Nat) : dl (gvD V) ≤ 1200 := by
  unfold gvD
  have h1 := dl_mono (rz_le (V / 10 ^ (dl V - 1200)))
  have h2 := gv_dl V
  omega
/-- digits shown, k places from the point -/
def dgs (X : Nat) (pt k : Int) : Int := if 0 ≤ pt + k ∧ pt + k < ((dl X : Nat) : Int) then ((X / 10 ^ (dl X - 1 - (pt + k).toNat) % 10 : Nat) : Int) else 0
/-- the sum over the first i digits -/
def hsv (X : Nat) : Nat → Int64
  | 0 => jI 7
  | i + 1 => hsv X i * jI 31 + jI ((X / 10 ^ (dl X - 1 - i) % 10 : Nat) : Int)
/-- a contract whose answer is a known reference -/
def c_R (l : Launch) (y : MethodName) (wd : List Cond) (rm : Room) (Ex : (Nat → Prop) → State → Prop) (D : va_G) (cl : List vw_C) (tys : List (ClassId × FieldType)) (av : List Value) (ws : va_W) (ra : Nat) (mc ms : Nat) : Prop :=
  ∀ sz : Nat, Met l y wd rm (c_P Ex D cl tys av ws sz) (va_Qr (fun u : va_W => u = ws) (fun u a t => a = ra ∧ c_B D cl (va_A ws sz) u t) (va_A ws sz)) mc ms (va_A ws sz)
section EdCalls2
variable {p : Program} {l : Launch} {e : Env} {R : Room} {s : State} {m : MethodId} {args : Array Value} {below : List Frame} {meth : Method} {c : Code} {H : Heap} {locs : List Loc} {cells slots : Nat} {Q : State → Prop} {pc : Nat} {ls : Array Slot} {rest st0 : List Value} {a : Array Value} {A0 : Nat → Prop} {H0 : Heap} {mc ms : Nat} {D : va_G} {cl : List vw_C} {ws : va_W} {ra : Nat}
theorem c_fr (hr : va_Run p l e R s m args below meth c H locs cells slots mc ms (F0 m pc ls st0) rest (va_Qr (fun u : va_W => u = []) (fun u a t => a = ra ∧ c_B D cl (va_A [] H.size) u t) (va_A [] H.size) a) (va_A [] H.size))
    (hP : va_P D cl ws H) (hD : va_D A0 ws) (hS : va_S A0 H0 H locs) (hA : ∀ q, H0.size ≤ q → A0 q) (isR : List Nat) (hR : isR.map (fun i => ws[i]?) = ws.map some) (hn2 : va_nd isR = true)
    (kk : ∀ (H1 : Heap) (locs1 : List Loc), va_P D cl (ws ++ []) H1 → va_D A0 (ws ++ []) → va_S A0 H0 H1 locs1 → W p l e R s m args below meth c H1 locs1 (cells + mc) (slots + ms) Q (F0 m (pc + 3) ls (.ref ra :: rest))) : W p l e R s m args below meth c H locs cells slots Q (F0 m pc ls st0) := by
  have hC : ([] : List Nat).map (fun i => ws[i]?) = ([] : va_W).map some := rfl
  have hF := va_free (wc := []) hD hS hA [] hC
  refine va_callr hr hS (fun q _ h => hF q h) hF (fun u a t H1 locs1 ht hvm hp hB hz hk hS1 => ?_)
  obtain ⟨rfl, hP1, hD1⟩ := hB
  subst hp
  rw [ht] at hP1
  obtain ⟨hP2, hD2⟩ := va_join hP hD [] isR hC hR hn2 (fun i _ h => by cases h) hk hF hP1 hD1
  exact kk H1 locs1 hP2 hD2 hS1
end EdCalls2
theorem shr16 {a : Int} (ha : iR a) : iI a >>> (iI 16 &&& 31) = iI (a / 65536) := by
  apply Int32.toInt_inj.mp
  rw [pk_shr (iI a) (iI 16 &&& 31) 16 (by decide +kernel), iI_toInt ha, iI_toInt (by omega), Int.shiftRight_eq_div_pow]
  rfl
