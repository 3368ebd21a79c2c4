/-! longs, booleans at an Int index, blocks of arrays -/
def lL (z : Int) : Int64 := Int64.ofInt z
theorem lL_add (a b : Int) : lL a + lL b = lL (a + b) := (Int64.ofInt_add a b).symm
theorem lL_mul (a b : Int) : lL a * lL b = lL (a * b) := (Int64.ofInt_mul a b).symm
theorem lL_toInt {z : Int} (h : -9223372036854775808 ≤ z ∧ z < 9223372036854775808) : (lL z).toInt = z := Int64.toInt_ofInt_of_le (by omega) (by omega)
theorem lL_i2l {a : Int} (h : -2147483648 ≤ a ∧ a < 2147483648) : (iI a).toInt64 = lL a := by
  apply Int64.toInt_inj.mp
  rw [Int32.toInt_toInt64, iI_toInt h, lL_toInt (by omega)]
def cmpZ (a b : Int) : Int := if b < a then 1 else if a = b then 0 else -1
theorem cmpZ_rng (a b : Int) : -1 ≤ cmpZ a b ∧ cmpZ a b ≤ 1 := by
  unfold cmpZ
  split
  · omega
  · split <;> omega
theorem cmpZ_pos (a b : Int) : 0 < cmpZ a b ↔ b < a := by
  unfold cmpZ
  split
  · constructor <;> intro _ <;> omega
  · split <;> constructor <;> intro _ <;> omega
theorem lcmp_eq {a b : Int} (ha : -9223372036854775808 ≤ a ∧ a < 9223372036854775808) (hb : -9223372036854775808 ≤ b ∧ b < 9223372036854775808) : lg_cmp (lL a) (lL b) = iI (cmpZ a b) := by
  have e1 : lL b < lL a ↔ b < a := by rw [Int64.lt_iff_toInt_lt, lL_toInt ha, lL_toInt hb]
  have e2 : lL a = lL b ↔ a = b := by rw [← Int64.toInt_inj, lL_toInt ha, lL_toInt hb]
  unfold lg_cmp cmpZ
  by_cases h1 : b < a
  · rw [if_pos (e1.mpr h1), if_pos h1]; rfl
  · rw [if_neg (fun q => h1 (e1.mp q)), if_neg h1]
    by_cases h2 : a = b
    · rw [if_pos (e2.mpr h2), if_pos h2]; rfl
    · rw [if_neg (fun q => h2 (e2.mp q)), if_neg h2]; rfl
section KL
variable {p : Program} {l : Launch} {e : Env} {R : Room} {s : State} {m : MethodId} {args : Array Value} {below : List Frame} {meth : Method} {c : Code} {H H0 : Heap} {locs : List Loc} {cells slots : Nat} {Q : State → Prop} {cc : ByteArray} {pc : Nat} {ls : Array Slot} {rest : List Value} {G : GG} {ws : va_W} {A : Nat → Prop}
theorem k_i2l (hx : p.tables.exec = Jvm.exec) (hb : c.code = cc) {a : Int} (h : -2147483648 ≤ a ∧ a < 2147483648) (hd : decode cc pc = .ok (.i2l, 1)) (k : W p l e R s m args below meth c H locs cells slots Q (F0 m (pc + 1) ls (.long (lL a) :: rest))) : W p l e R s m args below meth c H locs cells slots Q (F0 m pc ls (.int (iI a) :: rest)) := lv_i2l hx hb hd (lL_i2l h) k
theorem k_ladd (hx : p.tables.exec = Jvm.exec) (hb : c.code = cc) {a b : Int} (hd : decode cc pc = .ok (.ladd, 1)) (k : W p l e R s m args below meth c H locs cells slots Q (F0 m (pc + 1) ls (.long (lL (a + b)) :: rest))) : W p l e R s m args below meth c H locs cells slots Q (F0 m pc ls (.long (lL b) :: .long (lL a) :: rest)) := lv_ladd hx hb hd (by rw [lL_add]; exact k)
theorem k_lmul (hx : p.tables.exec = Jvm.exec) (hb : c.code = cc) {a b : Int} (hd : decode cc pc = .ok (.lmul, 1)) (k : W p l e R s m args below meth c H locs cells slots Q (F0 m (pc + 1) ls (.long (lL (a * b)) :: rest))) : W p l e R s m args below meth c H locs cells slots Q (F0 m pc ls (.long (lL b) :: .long (lL a) :: rest)) := lv_lmul hx hb hd (by rw [lL_mul]; exact k)
theorem k_lcmp (hx : p.tables.exec = Jvm.exec) (hb : c.code = cc) {a b : Int} (ha : -9223372036854775808 ≤ a ∧ a < 9223372036854775808) (hb2 : -9223372036854775808 ≤ b ∧ b < 9223372036854775808) (hd : decode cc pc = .ok (.lcmp, 1)) (k : W p l e R s m args below meth c H locs cells slots Q (F0 m (pc + 1) ls (.int (iI (cmpZ a b)) :: rest))) : W p l e R s m args below meth c H locs cells slots Q (F0 m pc ls (.long (lL b) :: .long (lL a) :: rest)) := W.lcmp hx hb hd (by rw [lcmp_eq ha hb2]; exact k)
theorem k_zald (hx : p.tables.exec = Jvm.exec) (hb : c.code = cc) (hG : GK G s) (hP : va_P G.1 vwCl ws H) (q0 : Nat) {a n : Nat} {F : Nat → Bool} (ha : ws[q0]? = some (a, .inl (G.2 1, n, .inl (fun k => iI (b2i (F k)))))) {z : Int} (h : 0 ≤ z ∧ z < n) (hn : n < 2147483648) (hd : decode cc pc = .ok (.baload, 1)) (k : W p l e R s m args below meth c H locs cells slots Q (F0 m (pc + 1) ls (.int (iI (b2i (F z.toNat))) :: rest))) : W p l e R s m args below meth c H locs cells slots Q (F0 m pc ls (.int (iI z) :: .ref a :: rest)) := va_zald hx hb hG.1 hP q0 1 ha rfl (iI_in h hn) hd (by rw [iI_clamp ⟨h.1, by omega⟩]; exact k)
end KL
/-! a block of an array laid over another -/
def shB {α : Type} (F : Nat → α) (bf bt k : Nat) : Nat → α := fun q => if bt ≤ q ∧ q < bt + k then F (bf + (q - bt)) else F q
theorem shB_0 {α : Type} (F : Nat → α) (bf bt : Nat) : F = shB F bf bt 0 := by
  funext q
  unfold shB
  rw [if_neg (by omega)]
theorem shB_s {α : Type} (F : Nat → α) {bf bt k n : Nat} (hk : k < n) (h : bf + n ≤ bt ∨ bt + n ≤ bf) : va_up (shB F bf bt k) (bt + k) (shB F bf bt k (bf + k)) = shB F bf bt (k + 1) := by
  funext q
  have e : shB F bf bt k (bf + k) = F (bf + k) := by
    unfold shB
    rw [if_neg (by omega)]
  rw [e]
  unfold va_up shB
  by_cases e : q = bt + k
  · subst e
    rw [if_pos rfl, if_pos (by omega), show bt + k - bt = k by omega]
  · rw [if_neg e]
    by_cases e2 : bt ≤ q ∧ q < bt + k
    · rw [if_pos e2, if_pos (by omega)]
    · rw [if_neg e2, if_neg (by omega)]
/-! a grid of 16 columns, filled row by row -/
def grd {α : Type} (f : Nat → Nat → α) (F : Nat → α) (cm r c : Nat) : Nat → α := fun q => if (q / 16 < r ∧ q % 16 < cm) ∨ (q / 16 = r ∧ q % 16 < c) then f (q / 16) (q % 16) else F q
theorem grd_0 {α : Type} (f : Nat → Nat → α) (F : Nat → α) (cm : Nat) : F = grd f F cm 0 0 := by
  funext q
  unfold grd
  rw [if_neg (by omega)]
theorem grd_s {α : Type} (f : Nat → Nat → α) (F : Nat → α) {cm r c : Nat} (hc : c < 16) : va_up (grd f F cm r c) (16 * r + c) (f r c) = grd f F cm r (c + 1) := by
  funext q
  unfold va_up grd
  by_cases e : q = 16 * r + c
  · subst e
    have h1 : (16 * r + c) / 16 = r := by omega
    have h2 : (16 * r + c) % 16 = c := by omega
    rw [if_pos rfl, h1, h2, if_pos (Or.inr ⟨rfl, by omega⟩)]
  · rw [if_neg e]
    by_cases e2 : (q / 16 < r ∧ q % 16 < cm) ∨ (q / 16 = r ∧ q % 16 < c)
    · rw [if_pos e2, if_pos (by omega)]
    · rw [if_neg e2, if_neg (by omega)]
theorem grd_r {α : Type} (f : Nat → Nat → α) (F : Nat → α) {cm r c : Nat} (h : c = cm) : grd f F cm r c = grd f F cm (r + 1) 0 := by
  subst h
  funext q
  unfold grd
  by_cases e2 : (q / 16 < r ∧ q % 16 < c) ∨ (q / 16 = r ∧ q % 16 < c)
  · rw [if_pos e2, if_pos (by omega)]
  · rw [if_neg e2, if_neg (by omega)]
theorem grd_at {α : Type} (f : Nat → Nat → α) (F : Nat → α) {cm rw r c : Nat} (hr : r < rw) (hc : c < cm) (h16 : cm ≤ 16) : grd f F cm rw 0 (16 * r + c) = f r c := by
  unfold grd
  have h1 : (16 * r + c) / 16 = r := by omega
  have h2 : (16 * r + c) % 16 = c := by omega
  rw [h1, h2, if_pos (Or.inl ⟨hr, hc⟩)]
theorem grd_all {α : Type} {P : α → Prop} {f : Nat → Nat → α} {F : Nat → α} (h1 : ∀ r c, P (f r c)) (h2 : ∀ k, P (F k)) (cm r c : Nat) : ∀ k, P (grd f F cm r c k) := by
  intro k
  unfold grd
  split
  · exact h1 _ _
  · exact h2 k
theorem upup {α : Type} (F : Nat → α) (j : Nat) (a b : α) : va_up (va_up F j a) j b = va_up F j b := by
  funext q
  unfold va_up
  split <;> rfl
theorem up_at {α : Type} (F : Nat → α) (j : Nat) (a : α) : va_up F j a j = a := by
  unfold va_up
  rw [if_pos rfl]
theorem up_ne {α : Type} (F : Nat → α) {j q : Nat} (a : α) (h : q ≠ j) : va_up F j a q = F q := by
  unfold va_up
  rw [if_neg h]
theorem up_all {α : Type} {P : α → Prop} {F : Nat → α} {j : Nat} {a : α} (h1 : P a) (h2 : ∀ k, P (F k)) : ∀ k, P (va_up F j a k) := by
  intro k
  unfold va_up
  split
  · exact h1
  · exact h2 k
/-! sums over a page -/
def cntC (f : Nat → Nat → Nat) (r : Nat) : Nat → Nat
  | 0 => 0
  | c + 1 => cntC f r c + f r c
def cntR (f : Nat → Nat → Nat) (cm : Nat) : Nat → Nat
  | 0 => 0
  | r + 1 => cntR f cm r + cntC f r cm
theorem cntC_le {f : Nat → Nat → Nat} {b : Nat} (h : ∀ r c, f r c ≤ b) (r : Nat) : ∀ c, cntC f r c ≤ b * c
  | 0 => Nat.zero_le _
  | c + 1 => by
    have h1 := cntC_le h r c
    have h2 := h r c
    show cntC f r c + f r c ≤ b * (c + 1)
    rw [Nat.mul_add, Nat.mul_one]
    omega
