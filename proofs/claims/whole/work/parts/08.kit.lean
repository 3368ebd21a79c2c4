/-! ints as iI z: their arithmetic and order -/
def iI (z : Int) : Int32 := Int32.ofInt z
def b2i (b : Bool) : Int := if b then 1 else 0
theorem iI_add (a b : Int) : iI a + iI b = iI (a + b) := (Int32.ofInt_add a b).symm
theorem iI_sub (a b : Int) : iI a - iI b = iI (a - b) := (Int32.ofInt_sub a b).symm
theorem iI_mul (a b : Int) : iI a * iI b = iI (a * b) := (Int32.ofInt_mul a b).symm
theorem iI_neg (a : Int) : -iI a = iI (-a) := (Int32.ofInt_neg a).symm
theorem iI_nat (n : Nat) : nI n = iI (n : Int) := (Int32.ofInt_eq_ofNat (n := n)).symm
theorem iI_of (x : Int32) : x = iI x.toInt := (Int32.ofInt_toInt x).symm
theorem iI_rng (x : Int32) : -2147483648 ≤ x.toInt ∧ x.toInt < 2147483648 := by
  have h1 := Int32.le_toInt x
  have h2 := Int32.toInt_lt x
  omega
theorem iI_toInt {z : Int} (h : -2147483648 ≤ z ∧ z < 2147483648) : (iI z).toInt = z := Int32.toInt_ofInt_of_le (by omega) (by omega)
theorem iI_lt {a b : Int} (ha : -2147483648 ≤ a ∧ a < 2147483648) (hb : -2147483648 ≤ b ∧ b < 2147483648) : iI a < iI b ↔ a < b := by rw [Int32.lt_iff_toInt_lt, iI_toInt ha, iI_toInt hb]
theorem iI_le {a b : Int} (ha : -2147483648 ≤ a ∧ a < 2147483648) (hb : -2147483648 ≤ b ∧ b < 2147483648) : iI a ≤ iI b ↔ a ≤ b := by rw [Int32.le_iff_toInt_le, iI_toInt ha, iI_toInt hb]
theorem iI_eq {a b : Int} (ha : -2147483648 ≤ a ∧ a < 2147483648) (hb : -2147483648 ≤ b ∧ b < 2147483648) : iI a = iI b ↔ a = b := by rw [← Int32.toInt_inj, iI_toInt ha, iI_toInt hb]
theorem iI_clamp {z : Int} (h : 0 ≤ z ∧ z < 2147483648) : (iI z).toNatClampNeg = z.toNat := Int32.toNatClampNeg_ofInt_of_le (by omega) (by omega)
theorem iI_in {z : Int} {n : Nat} (h : 0 ≤ z ∧ z < n) (hn : n < 2147483648) : vp_in (iI z) n := by
  rw [vp_in_iff, iI_toInt (by omega)]
  exact h
theorem iI_div {a b : Int} (ha : -2147483648 ≤ a ∧ a < 2147483648) (hb : 0 < b ∧ b < 2147483648) : iI a / iI b = iI (a.tdiv b) := by
  apply Int32.toInt_inj.mp
  have hb1 : iI b ≠ -1 := by
    intro h
    have h2 := congrArg Int32.toInt h
    rw [iI_toInt (by omega)] at h2
    have h3 : (-1 : Int32).toInt = -1 := by decide
    omega
  rw [Int32.toInt_div_of_ne_right _ _ hb1, iI_toInt ha, iI_toInt (by omega), iI_toInt]
  have h1 := Int.natAbs_tdiv_le_natAbs a b
  constructor
  · have : (a.tdiv b).natAbs ≤ a.natAbs := h1
    omega
  · rcases Int.le_total 0 a with h | h
    · have : (a.tdiv b).natAbs ≤ a.natAbs := h1
      omega
    · have : a.tdiv b ≤ 0 := by
        have := Int.tdiv_nonneg (a := -a) (b := b) (by omega) (by omega)
        rw [Int.neg_tdiv] at this
        omega
      omega
theorem b2i_rng (b : Bool) : 0 ≤ b2i b ∧ b2i b ≤ 1 := by cases b <;> decide
theorem b2i_t {P : Prop} [Decidable P] (h : P) : b2i (decide P) = 1 := by simp [b2i, h]
theorem b2i_f {P : Prop} [Decidable P] (h : ¬ P) : b2i (decide P) = 0 := by simp [b2i, h]
theorem b2i_nar (b : Bool) : narrow .boolean (.int (iI (b2i b))) = .int (iI (b2i b)) := by cases b <;> rfl
theorem b2i_fit (b : Bool) : fits .boolean (.int (iI (b2i b))) = true := by cases b <;> rfl
theorem b2i_vp (b : Bool) : vp_nar .boolean (iI (b2i b)) = iI (b2i b) := by cases b <;> rfl
theorem b2i_inj {a b : Bool} : iI (b2i a) = iI (b2i b) ↔ a = b := by cases a <;> cases b <;> decide
theorem kn_and (a b : Nat) : iI (a : Int) &&& iI (b : Int) = iI ((a &&& b : Nat) : Int) := by
  rw [← iI_nat, ← iI_nat, ← iI_nat]
  apply Int32.toBitVec_inj.1
  show BitVec.ofNat 32 a &&& BitVec.ofNat 32 b = BitVec.ofNat 32 (a &&& b)
  apply BitVec.eq_of_getLsbD_eq
  intro i hi
  simp [hi]
theorem kn_or (a b : Nat) : iI (a : Int) ||| iI (b : Int) = iI ((a ||| b : Nat) : Int) := by
  rw [← iI_nat, ← iI_nat, ← iI_nat]
  apply Int32.toBitVec_inj.1
  show BitVec.ofNat 32 a ||| BitVec.ofNat 32 b = BitVec.ofNat 32 (a ||| b)
  apply BitVec.eq_of_getLsbD_eq
  intro i hi
  simp [hi]
theorem kn_xor (a b : Nat) : iI (a : Int) ^^^ iI (b : Int) = iI ((a ^^^ b : Nat) : Int) := by
  rw [← iI_nat, ← iI_nat, ← iI_nat]
  apply Int32.toBitVec_inj.1
  show BitVec.ofNat 32 a ^^^ BitVec.ofNat 32 b = BitVec.ofNat 32 (a ^^^ b)
  apply BitVec.eq_of_getLsbD_eq
  intro i hi
  simp [hi]
theorem kn_m1 : iI (-1) = iI ((4294967295 : Nat) : Int) := by decide
theorem kn_sl : ∀ n, n < 32 → ((nI n &&& 31).toBitVec.smod 32).toNat = n := by decide +kernel
theorem kn_su : ∀ n, n < 32 → (((nI n).toUInt32 &&& Int32.toUInt32 31).toBitVec % 32).toNat = n := by decide +kernel
theorem kn_shl (a : Nat) {k : Nat} (hk : k < 32) : iI (a : Int) <<< (iI (k : Int) &&& 31) = iI ((a <<< k : Nat) : Int) := by
  rw [← iI_nat, ← iI_nat, ← iI_nat]
  apply Int32.toBitVec_inj.1
  apply BitVec.eq_of_toNat_eq
  rw [pk_shl _ _ k (kn_sl k hk)]
  show (BitVec.ofNat 32 a).toNat * 2 ^ k % 2 ^ 32 = (BitVec.ofNat 32 (a <<< k)).toNat
  rw [BitVec.toNat_ofNat, BitVec.toNat_ofNat, Nat.shiftLeft_eq, Nat.mod_mul_mod]
theorem kn_shr {a k : Nat} (ha : a < 2147483648) (hk : k < 32) : iI (a : Int) >>> (iI (k : Int) &&& 31) = iI ((a >>> k : Nat) : Int) := by
  rw [← iI_nat, ← iI_nat, ← iI_nat, Nat.shiftRight_eq_div_pow]
  exact pk_shrN (by omega) _ k (kn_sl k hk)
theorem kn_ushr {a k : Nat} (ha : a < 4294967296) (hk : k < 32) : ((iI (a : Int)).toUInt32 >>> ((iI (k : Int)).toUInt32 &&& Int32.toUInt32 31)).toInt32 = iI ((a >>> k : Nat) : Int) := by
  rw [← iI_nat, ← iI_nat, ← iI_nat, Nat.shiftRight_eq_div_pow]
  exact pk_ushrN (by omega) _ k (kn_su k hk)
/-! the world that all contracts share: tables, array classes, the nest's links -/
abbrev GG : Type := va_G × (Nat → ClassId)
abbrev gT (G : GG) : List (ClassId × FieldType) := [(G.2 0, .int), (G.2 1, .boolean), (G.2 2, .object "InkOverInk$Shape"), (G.2 3, .object "InkOverInk$Sheet")]
def gN (U : State) : Prop := va_Nw (.methodLinkNest RX3 55 yX4_isWithin RX4) U ∧ va_Nw (.methodLinkNest RX1 133 yX4_isWithin RX4) U ∧ va_Nw (.methodLinkNest RX2 37 yX4_isWithin RX4) U ∧ va_Nw (.methodLinkNest RX1 122 yX4_hasInk RX4) U ∧ va_Nw (.methodLinkNest RX3 91 yX4_hasInk RX4) U ∧ va_Nw (.methodLinkNest RX0 44 yX4_isWithin RX4) U
def GK (G : GG) (U : State) : Prop := va_K G.1 vwCl (gT G) U ∧ gN U ∧ va_AO RX2 U ∧ va_AO RX3 U
theorem GK.warm {G : GG} {s U : State} (hW : s.WarmedH U.vm) (h : GK G s) : GK G U := by
  obtain ⟨h1, ⟨n1, n2, n3, n4, n5, n6⟩, h3, h4⟩ := h
  exact ⟨va_K.moved hW.alike h1, ⟨va_Nw.warmM hW n1, va_Nw.warmM hW n2, va_Nw.warmM hW n3, va_Nw.warmM hW n4, va_Nw.warmM hW n5, va_Nw.warmM hW n6⟩, va_AO.moved hW.alike h3, va_AO.moved hW.alike h4⟩
theorem GK.same {G : GG} {u U : State} (h : u.vm = U.vm) (hG : GK G u) : GK G U := by
  obtain ⟨h1, ⟨n1, n2, n3, n4, n5, n6⟩, h3, h4⟩ := hG
  have ha : u.vm.Alike U.vm := by rw [h]; exact Vm.Alike.refl _
  exact ⟨va_K.moved ha h1, ⟨va_Nw.same rfl h n1, va_Nw.same rfl h n2, va_Nw.same rfl h n3, va_Nw.same rfl h n4, va_Nw.same rfl h n5, va_Nw.same rfl h n6⟩, va_AO.moved ha h3, va_AO.moved ha h4⟩
/-! a method that only reads: it needs the cells w, answers v, the heap stays -/
def ro (G : GG) (av : List Value) (w : va_W) : Array Value → State → Prop := va_Pc av (fun U => GK G U ∧ va_P G.1 vwCl w U.heap)
def roQ (v : Value) : Array Value → State → Outcome → State → Prop := fun _ st oc t => oc = .returned (some v) ∧ t.heap = st.heap
theorem ro_blind (G : GG) (av : List Value) (w : va_W) : FrameBlind (ro G av w) := fun a U g mk q => by
  obtain ⟨q0, q1, q2⟩ := q
  exact ⟨q0, GK.same (u := U) (U := U.calling g mk a) rfl q1, q2⟩
/-! a method that writes: it gets the cells w alone, apart; it answers o and leaves the cells w1 -/
def rw0 (G : GG) (av : List Value) (w : va_W) (sz : Nat) : Array Value → State → Prop := va_Pc av (fun U => GK G U ∧ U.heap.size = sz ∧ va_P G.1 vwCl w U.heap ∧ va_D (fun _ => True) w)
def rwQ (G : GG) (w : va_W) (sz : Nat) (post : Option Value → va_W → Prop) : Array Value → State → Outcome → State → Prop := fun _ st oc t => ∃ (o : Option Value) (w1 : va_W), oc = .returned o ∧ post o w1 ∧ va_P G.1 vwCl w1 t.heap ∧ va_D (va_A w sz) w1 ∧ va_F (va_A w sz) st t
theorem rw_blind (G : GG) (av : List Value) (w : va_W) (sz : Nat) : FrameBlind (rw0 G av w sz) := fun a U g mk q => by
  obtain ⟨q0, q1, q2, q3, q4⟩ := q
  exact ⟨q0, GK.same (u := U) (U := U.calling g mk a) rfl q1, q2, q3, q4⟩
section KX
variable {p : Program} {l : Launch} {e : Env} {R : Room} {s : State} {m : MethodId} {args : Array Value} {below : List Frame} {meth : Method} {c : Code} {H H0 : Heap} {locs : List Loc} {cells slots : Nat} {Q : State → Prop} {cc : ByteArray} {pc : Nat} {ls : Array Slot} {rest : List Value} {G : GG} {ws : va_W} {A : Nat → Prop}
theorem k_iadd (hx : p.tables.exec = Jvm.exec) (hb : c.code = cc) {a b : Int} (hd : decode cc pc = .ok (.iadd, 1)) (k : W p l e R s m args below meth c H locs cells slots Q (F0 m (pc + 1) ls (.int (iI (a + b)) :: rest))) : W p l e R s m args below meth c H locs cells slots Q (F0 m pc ls (.int (iI b) :: .int (iI a) :: rest)) := lv_iadd hx hb hd (by rw [iI_add]; exact k)
theorem k_isub (hx : p.tables.exec = Jvm.exec) (hb : c.code = cc) {a b : Int} (hd : decode cc pc = .ok (.isub, 1)) (k : W p l e R s m args below meth c H locs cells slots Q (F0 m (pc + 1) ls (.int (iI (a - b)) :: rest))) : W p l e R s m args below meth c H locs cells slots Q (F0 m pc ls (.int (iI b) :: .int (iI a) :: rest)) := lv_isub hx hb hd (by rw [iI_sub]; exact k)
theorem k_imul (hx : p.tables.exec = Jvm.exec) (hb : c.code = cc) {a b : Int} (hd : decode cc pc = .ok (.imul, 1)) (k : W p l e R s m args below meth c H locs cells slots Q (F0 m (pc + 1) ls (.int (iI (a * b)) :: rest))) : W p l e R s m args below meth c H locs cells slots Q (F0 m pc ls (.int (iI b) :: .int (iI a) :: rest)) := lv_imul hx hb hd (by rw [iI_mul]; exact k)
theorem k_ineg (hx : p.tables.exec = Jvm.exec) (hb : c.code = cc) {a : Int} (hd : decode cc pc = .ok (.ineg, 1)) (k : W p l e R s m args below meth c H locs cells slots Q (F0 m (pc + 1) ls (.int (iI (-a)) :: rest))) : W p l e R s m args below meth c H locs cells slots Q (F0 m pc ls (.int (iI a) :: rest)) := lv_ineg hx hb hd (by rw [iI_neg]; exact k)
theorem k_idiv (hx : p.tables.exec = Jvm.exec) (hb : c.code = cc) {a b : Int} (ha : -2147483648 ≤ a ∧ a < 2147483648) (h0 : 0 < b ∧ b < 2147483648) (hd : decode cc pc = .ok (.idiv, 1)) (k : W p l e R s m args below meth c H locs cells slots Q (F0 m (pc + 1) ls (.int (iI (a.tdiv b)) :: rest))) : W p l e R s m args below meth c H locs cells slots Q (F0 m pc ls (.int (iI b) :: .int (iI a) :: rest)) := lv_idiv hx hb hd (fun h => by
  have h2 := (iI_eq (a := b) (b := 0) (by omega) (by omega)).mp h
  omega) (by rw [iI_div ha h0]; exact k)
theorem k_iaddN (hx : p.tables.exec = Jvm.exec) (hb : c.code = cc) {a b : Nat} (hd : decode cc pc = .ok (.iadd, 1)) (k : W p l e R s m args below meth c H locs cells slots Q (F0 m (pc + 1) ls (.int (iI ((a + b : Nat) : Int)) :: rest))) : W p l e R s m args below meth c H locs cells slots Q (F0 m pc ls (.int (iI (b : Int)) :: .int (iI (a : Int)) :: rest)) := k_iadd hx hb hd (by rw [← Int.natCast_add]; exact k)
theorem k_imulN (hx : p.tables.exec = Jvm.exec) (hb : c.code = cc) {a b : Nat} (hd : decode cc pc = .ok (.imul, 1)) (k : W p l e R s m args below meth c H locs cells slots Q (F0 m (pc + 1) ls (.int (iI ((a * b : Nat) : Int)) :: rest))) : W p l e R s m args below meth c H locs cells slots Q (F0 m pc ls (.int (iI (b : Int)) :: .int (iI (a : Int)) :: rest)) := k_imul hx hb hd (by rw [← Int.natCast_mul]; exact k)
theorem k_iand (hx : p.tables.exec = Jvm.exec) (hb : c.code = cc) {a b : Nat} (hd : decode cc pc = .ok (.iand, 1)) (k : W p l e R s m args below meth c H locs cells slots Q (F0 m (pc + 1) ls (.int (iI ((a &&& b : Nat) : Int)) :: rest))) : W p l e R s m args below meth c H locs cells slots Q (F0 m pc ls (.int (iI (b : Int)) :: .int (iI (a : Int)) :: rest)) := lv_iand hx hb hd (by rw [kn_and]; exact k)
theorem k_ior (hx : p.tables.exec = Jvm.exec) (hb : c.code = cc) {a b : Nat} (hd : decode cc pc = .ok (.ior, 1)) (k : W p l e R s m args below meth c H locs cells slots Q (F0 m (pc + 1) ls (.int (iI ((a ||| b : Nat) : Int)) :: rest))) : W p l e R s m args below meth c H locs cells slots Q (F0 m pc ls (.int (iI (b : Int)) :: .int (iI (a : Int)) :: rest)) := lv_ior hx hb hd (by rw [kn_or]; exact k)
theorem k_ixor (hx : p.tables.exec = Jvm.exec) (hb : c.code = cc) {a b : Nat} (hd : decode cc pc = .ok (.ixor, 1)) (k : W p l e R s m args below meth c H locs cells slots Q (F0 m (pc + 1) ls (.int (iI ((a ^^^ b : Nat) : Int)) :: rest))) : W p l e R s m args below meth c H locs cells slots Q (F0 m pc ls (.int (iI (b : Int)) :: .int (iI (a : Int)) :: rest)) := lv_ixor hx hb hd (by rw [kn_xor]; exact k)
theorem k_inot (hx : p.tables.exec = Jvm.exec) (hb : c.code = cc) {a : Nat} (hd : decode cc pc = .ok (.ixor, 1)) (k : W p l e R s m args below meth c H locs cells slots Q (F0 m (pc + 1) ls (.int (iI ((a ^^^ 4294967295 : Nat) : Int)) :: rest))) : W p l e R s m args below meth c H locs cells slots Q (F0 m pc ls (.int (iI (-1)) :: .int (iI (a : Int)) :: rest)) := lv_ixor hx hb hd (by rw [kn_m1, kn_xor]; exact k)
theorem k_ishl (hx : p.tables.exec = Jvm.exec) (hb : c.code = cc) {a b : Nat} (h : b < 32) (hd : decode cc pc = .ok (.ishl, 1)) (k : W p l e R s m args below meth c H locs cells slots Q (F0 m (pc + 1) ls (.int (iI ((a <<< b : Nat) : Int)) :: rest))) : W p l e R s m args below meth c H locs cells slots Q (F0 m pc ls (.int (iI (b : Int)) :: .int (iI (a : Int)) :: rest)) := lv_ishl hx hb hd (by rw [kn_shl a h]; exact k)
theorem k_ishr (hx : p.tables.exec = Jvm.exec) (hb : c.code = cc) {a b : Nat} (h : a < 2147483648) (h2 : b < 32) (hd : decode cc pc = .ok (.ishr, 1)) (k : W p l e R s m args below meth c H locs cells slots Q (F0 m (pc + 1) ls (.int (iI ((a >>> b : Nat) : Int)) :: rest))) : W p l e R s m args below meth c H locs cells slots Q (F0 m pc ls (.int (iI (b : Int)) :: .int (iI (a : Int)) :: rest)) := lv_ishr hx hb hd (by rw [kn_shr h h2]; exact k)
theorem k_iushr (hx : p.tables.exec = Jvm.exec) (hb : c.code = cc) {a b : Nat} (h : a < 4294967296) (h2 : b < 32) (hd : decode cc pc = .ok (.iushr, 1)) (k : W p l e R s m args below meth c H locs cells slots Q (F0 m (pc + 1) ls (.int (iI ((a >>> b : Nat) : Int)) :: rest))) : W p l e R s m args below meth c H locs cells slots Q (F0 m pc ls (.int (iI (b : Int)) :: .int (iI (a : Int)) :: rest)) := lv_iushr hx hb hd (kn_ushr h h2) k
theorem k_icmp_lt (hx : p.tables.exec = Jvm.exec) (hb : c.code = cc) {a b : Int} (ha : -2147483648 ≤ a ∧ a < 2147483648) (hb2 : -2147483648 ≤ b ∧ b < 2147483648) {off : Int} {tgt : Nat} (hd : decode cc pc = .ok (.if_icmp .lt off, 3)) (ht : (pc : Int) + off = (tgt : Int)) (kt : a < b → W p l e R s m args below meth c H locs cells slots Q (F0 m tgt ls rest)) (kf : ¬ a < b → W p l e R s m args below meth c H locs cells slots Q (F0 m (pc + 3) ls rest)) : W p l e R s m args below meth c H locs cells slots Q (F0 m pc ls (.int (iI b) :: .int (iI a) :: rest)) := lv_icmp_lt hx hb hd ht (fun h => kt ((iI_lt ha hb2).mp h)) (fun h => kf (fun q => h ((iI_lt ha hb2).mpr q)))
theorem k_if_lt (hx : p.tables.exec = Jvm.exec) (hb : c.code = cc) {a : Int} (ha : -2147483648 ≤ a ∧ a < 2147483648) {off : Int} {tgt : Nat} (hd : decode cc pc = .ok (.ifCond .lt off, 3)) (ht : (pc : Int) + off = (tgt : Int)) (kt : a < 0 → W p l e R s m args below meth c H locs cells slots Q (F0 m tgt ls rest)) (kf : ¬ a < 0 → W p l e R s m args below meth c H locs cells slots Q (F0 m (pc + 3) ls rest)) : W p l e R s m args below meth c H locs cells slots Q (F0 m pc ls (.int (iI a) :: rest)) := lv_if_lt hx hb hd ht (fun h => kt ((iI_lt (b := 0) ha (by omega)).mp h)) (fun h => kf (fun q => h ((iI_lt (b := 0) ha (by omega)).mpr q)))
theorem k_icmp_le (hx : p.tables.exec = Jvm.exec) (hb : c.code = cc) {a b : Int} (ha : -2147483648 ≤ a ∧ a < 2147483648) (hb2 : -2147483648 ≤ b ∧ b < 2147483648) {off : Int} {tgt : Nat} (hd : decode cc pc = .ok (.if_icmp .le off, 3)) (ht : (pc : Int) + off = (tgt : Int)) (kt : a ≤ b → W p l e R s m args below meth c H locs cells slots Q (F0 m tgt ls rest)) (kf : ¬ a ≤ b → W p l e R s m args below meth c H locs cells slots Q (F0 m (pc + 3) ls rest)) : W p l e R s m args below meth c H locs cells slots Q (F0 m pc ls (.int (iI b) :: .int (iI a) :: rest)) := lv_icmp_le hx hb hd ht (fun h => kt ((iI_le ha hb2).mp h)) (fun h => kf (fun q => h ((iI_le ha hb2).mpr q)))
theorem k_if_le (hx : p.tables.exec = Jvm.exec) (hb : c.code = cc) {a : Int} (ha : -2147483648 ≤ a ∧ a < 2147483648) {off : Int} {tgt : Nat} (hd : decode cc pc = .ok (.ifCond .le off, 3)) (ht : (pc : Int) + off = (tgt : Int)) (kt : a ≤ 0 → W p l e R s m args below meth c H locs cells slots Q (F0 m tgt ls rest)) (kf : ¬ a ≤ 0 → W p l e R s m args below meth c H locs cells slots Q (F0 m (pc + 3) ls rest)) : W p l e R s m args below meth c H locs cells slots Q (F0 m pc ls (.int (iI a) :: rest)) := lv_if_le hx hb hd ht (fun h => kt ((iI_le (b := 0) ha (by omega)).mp h)) (fun h => kf (fun q => h ((iI_le (b := 0) ha (by omega)).mpr q)))
theorem k_icmp_eq (hx : p.tables.exec = Jvm.exec) (hb : c.code = cc) {a b : Int} (ha : -2147483648 ≤ a ∧ a < 2147483648) (hb2 : -2147483648 ≤ b ∧ b < 2147483648) {off : Int} {tgt : Nat} (hd : decode cc pc = .ok (.if_icmp .eq off, 3)) (ht : (pc : Int) + off = (tgt : Int)) (kt : a = b → W p l e R s m args below meth c H locs cells slots Q (F0 m tgt ls rest)) (kf : ¬ a = b → W p l e R s m args below meth c H locs cells slots Q (F0 m (pc + 3) ls rest)) : W p l e R s m args below meth c H locs cells slots Q (F0 m pc ls (.int (iI b) :: .int (iI a) :: rest)) := lv_icmp_eq hx hb hd ht (fun h => kt ((iI_eq ha hb2).mp h)) (fun h => kf (fun q => h ((iI_eq ha hb2).mpr q)))
theorem k_if_eq (hx : p.tables.exec = Jvm.exec) (hb : c.code = cc) {a : Int} (ha : -2147483648 ≤ a ∧ a < 2147483648) {off : Int} {tgt : Nat} (hd : decode cc pc = .ok (.ifCond .eq off, 3)) (ht : (pc : Int) + off = (tgt : Int)) (kt : a = 0 → W p l e R s m args below meth c H locs cells slots Q (F0 m tgt ls rest)) (kf : ¬ a = 0 → W p l e R s m args below meth c H locs cells slots Q (F0 m (pc + 3) ls rest)) : W p l e R s m args below meth c H locs cells slots Q (F0 m pc ls (.int (iI a) :: rest)) := lv_if_eq hx hb hd ht (fun h => kt ((iI_eq (b := 0) ha (by omega)).mp h)) (fun h => kf (fun q => h ((iI_eq (b := 0) ha (by omega)).mpr q)))
theorem k_icmp_ge (hx : p.tables.exec = Jvm.exec) (hb : c.code = cc) {a b : Int} (ha : -2147483648 ≤ a ∧ a < 2147483648) (hb2 : -2147483648 ≤ b ∧ b < 2147483648) {off : Int} {tgt : Nat} (hd : decode cc pc = .ok (.if_icmp .ge off, 3)) (ht : (pc : Int) + off = (tgt : Int)) (kt : b ≤ a → W p l e R s m args below meth c H locs cells slots Q (F0 m tgt ls rest)) (kf : ¬ b ≤ a → W p l e R s m args below meth c H locs cells slots Q (F0 m (pc + 3) ls rest)) : W p l e R s m args below meth c H locs cells slots Q (F0 m pc ls (.int (iI b) :: .int (iI a) :: rest)) := lv_icmp_ge hx hb hd ht (fun h => kt ((iI_le hb2 ha).mp h)) (fun h => kf (fun q => h ((iI_le hb2 ha).mpr q)))
theorem k_if_ge (hx : p.tables.exec = Jvm.exec) (hb : c.code = cc) {a : Int} (ha : -2147483648 ≤ a ∧ a < 2147483648) {off : Int} {tgt : Nat} (hd : decode cc pc = .ok (.ifCond .ge off, 3)) (ht : (pc : Int) + off = (tgt : Int)) (kt : 0 ≤ a → W p l e R s m args below meth c H locs cells slots Q (F0 m tgt ls rest)) (kf : ¬ 0 ≤ a → W p l e R s m args below meth c H locs cells slots Q (F0 m (pc + 3) ls rest)) : W p l e R s m args below meth c H locs cells slots Q (F0 m pc ls (.int (iI a) :: rest)) := lv_if_ge hx hb hd ht (fun h => kt ((iI_le (a := 0) (by omega) ha).mp h)) (fun h => kf (fun q => h ((iI_le (a := 0) (by omega) ha).mpr q)))
theorem k_icmp_gt (hx : p.tables.exec = Jvm.exec) (hb : c.code = cc) {a b : Int} (ha : -2147483648 ≤ a ∧ a < 2147483648) (hb2 : -2147483648 ≤ b ∧ b < 2147483648) {off : Int} {tgt : Nat} (hd : decode cc pc = .ok (.if_icmp .gt off, 3)) (ht : (pc : Int) + off = (tgt : Int)) (kt : b < a → W p l e R s m args below meth c H locs cells slots Q (F0 m tgt ls rest)) (kf : ¬ b < a → W p l e R s m args below meth c H locs cells slots Q (F0 m (pc + 3) ls rest)) : W p l e R s m args below meth c H locs cells slots Q (F0 m pc ls (.int (iI b) :: .int (iI a) :: rest)) := lv_icmp_gt hx hb hd ht (fun h => kt ((iI_lt hb2 ha).mp h)) (fun h => kf (fun q => h ((iI_lt hb2 ha).mpr q)))
theorem k_if_gt (hx : p.tables.exec = Jvm.exec) (hb : c.code = cc) {a : Int} (ha : -2147483648 ≤ a ∧ a < 2147483648) {off : Int} {tgt : Nat} (hd : decode cc pc = .ok (.ifCond .gt off, 3)) (ht : (pc : Int) + off = (tgt : Int)) (kt : 0 < a → W p l e R s m args below meth c H locs cells slots Q (F0 m tgt ls rest)) (kf : ¬ 0 < a → W p l e R s m args below meth c H locs cells slots Q (F0 m (pc + 3) ls rest)) : W p l e R s m args below meth c H locs cells slots Q (F0 m pc ls (.int (iI a) :: rest)) := lv_if_gt hx hb hd ht (fun h => kt ((iI_lt (a := 0) (by omega) ha).mp h)) (fun h => kf (fun q => h ((iI_lt (a := 0) (by omega) ha).mpr q)))
theorem k_icmp_ne (hx : p.tables.exec = Jvm.exec) (hb : c.code = cc) {a b : Int} (ha : -2147483648 ≤ a ∧ a < 2147483648) (hb2 : -2147483648 ≤ b ∧ b < 2147483648) {off : Int} {tgt : Nat} (hd : decode cc pc = .ok (.if_icmp .ne off, 3)) (ht : (pc : Int) + off = (tgt : Int)) (kt : ¬ a = b → W p l e R s m args below meth c H locs cells slots Q (F0 m tgt ls rest)) (kf : a = b → W p l e R s m args below meth c H locs cells slots Q (F0 m (pc + 3) ls rest)) : W p l e R s m args below meth c H locs cells slots Q (F0 m pc ls (.int (iI b) :: .int (iI a) :: rest)) := lv_icmp_ne hx hb hd ht (fun h => kt (fun q => h ((iI_eq ha hb2).mpr q))) (fun h => kf ((iI_eq ha hb2).mp h))
theorem k_if_ne (hx : p.tables.exec = Jvm.exec) (hb : c.code = cc) {a : Int} (ha : -2147483648 ≤ a ∧ a < 2147483648) {off : Int} {tgt : Nat} (hd : decode cc pc = .ok (.ifCond .ne off, 3)) (ht : (pc : Int) + off = (tgt : Int)) (kt : ¬ a = 0 → W p l e R s m args below meth c H locs cells slots Q (F0 m tgt ls rest)) (kf : a = 0 → W p l e R s m args below meth c H locs cells slots Q (F0 m (pc + 3) ls rest)) : W p l e R s m args below meth c H locs cells slots Q (F0 m pc ls (.int (iI a) :: rest)) := lv_if_ne hx hb hd ht (fun h => kt (fun q => h ((iI_eq (b := 0) ha (by omega)).mpr q))) (fun h => kf ((iI_eq (b := 0) ha (by omega)).mp h))
theorem k_ifD (hx : p.tables.exec = Jvm.exec) (hb : c.code = cc) {P : Prop} [Decidable P] {off : Int} {tgt : Nat} (hd : decode cc pc = .ok (.ifCond .eq off, 3)) (ht : (pc : Int) + off = (tgt : Int)) (kt : ¬ P → W p l e R s m args below meth c H locs cells slots Q (F0 m tgt ls rest)) (kf : P → W p l e R s m args below meth c H locs cells slots Q (F0 m (pc + 3) ls rest)) : W p l e R s m args below meth c H locs cells slots Q (F0 m pc ls (.int (iI (b2i (decide P))) :: rest)) := by
  have hr := b2i_rng (decide P)
  refine k_if_eq hx hb (by omega) hd ht (fun h => kt (fun q => ?_)) (fun h => kf (Classical.byContradiction fun q => h (b2i_f q)))
  rw [b2i_t q] at h
  omega
theorem k_ifnD (hx : p.tables.exec = Jvm.exec) (hb : c.code = cc) {P : Prop} [Decidable P] {off : Int} {tgt : Nat} (hd : decode cc pc = .ok (.ifCond .ne off, 3)) (ht : (pc : Int) + off = (tgt : Int)) (kt : P → W p l e R s m args below meth c H locs cells slots Q (F0 m tgt ls rest)) (kf : ¬ P → W p l e R s m args below meth c H locs cells slots Q (F0 m (pc + 3) ls rest)) : W p l e R s m args below meth c H locs cells slots Q (F0 m pc ls (.int (iI (b2i (decide P))) :: rest)) := by
  have hr := b2i_rng (decide P)
  refine k_if_ne hx hb (by omega) hd ht (fun h => kt (Classical.byContradiction fun q => h (b2i_f q))) (fun h => kf (fun q => ?_))
  rw [b2i_t q] at h
  omega
theorem k_ifB (hx : p.tables.exec = Jvm.exec) (hb : c.code = cc) {B : Bool} {off : Int} {tgt : Nat} (hd : decode cc pc = .ok (.ifCond .eq off, 3)) (ht : (pc : Int) + off = (tgt : Int)) (kt : B = false → W p l e R s m args below meth c H locs cells slots Q (F0 m tgt ls rest)) (kf : B = true → W p l e R s m args below meth c H locs cells slots Q (F0 m (pc + 3) ls rest)) : W p l e R s m args below meth c H locs cells slots Q (F0 m pc ls (.int (iI (b2i B)) :: rest)) := by
  have hr := b2i_rng B
  cases B with
  | false => exact k_if_eq hx hb (by omega) hd ht (fun _ => kt rfl) (fun h => absurd rfl h)
  | true => exact k_if_eq hx hb (by omega) hd ht (fun h => absurd h (by decide)) (fun _ => kf rfl)
theorem k_ifnB (hx : p.tables.exec = Jvm.exec) (hb : c.code = cc) {B : Bool} {off : Int} {tgt : Nat} (hd : decode cc pc = .ok (.ifCond .ne off, 3)) (ht : (pc : Int) + off = (tgt : Int)) (kt : B = true → W p l e R s m args below meth c H locs cells slots Q (F0 m tgt ls rest)) (kf : B = false → W p l e R s m args below meth c H locs cells slots Q (F0 m (pc + 3) ls rest)) : W p l e R s m args below meth c H locs cells slots Q (F0 m pc ls (.int (iI (b2i B)) :: rest)) := by
  have hr := b2i_rng B
  cases B with
  | false => exact k_if_ne hx hb (by omega) hd ht (fun h => absurd rfl h) (fun _ => kf rfl)
  | true => exact k_if_ne hx hb (by omega) hd ht (fun _ => kt rfl) (fun h => absurd h (by decide))
theorem k_iinc (hx : p.tables.exec = Jvm.exec) (hb : c.code = cc) {i nL k : Nat} {n a : Int} {lv lv' : List (Nat × Value)} (hd : decode cc pc = .ok (.iinc i n, 3)) (h : lv_has ls nL lv) (hk : lv[k]? = some (i, .int (iI a))) (hn : i < nL) (hl : (i, Value.int (iI (a + n))) :: lv.filter (fun q => !(q.1 == i) && !(q.1 + 1 == i && q.2.category == 2)) = lv') (kk : ∀ ls' : Array Slot, lv_has ls' nL lv' → W p l e R s m args below meth c H locs cells slots Q (F0 m (pc + 3) ls' rest)) : W p l e R s m args below meth c H locs cells slots Q (F0 m pc ls rest) := lv_iinc hx hb hd h hk (iI_add a n) hn hl kk
theorem k_iincN (hx : p.tables.exec = Jvm.exec) (hb : c.code = cc) {i nL k n a : Nat} {lv lv' : List (Nat × Value)} (hd : decode cc pc = .ok (.iinc i (n : Int), 3)) (h : lv_has ls nL lv) (hk : lv[k]? = some (i, .int (iI (a : Int)))) (hn : i < nL) (hl : (i, Value.int (iI ((a + n : Nat) : Int))) :: lv.filter (fun q => !(q.1 == i) && !(q.1 + 1 == i && q.2.category == 2)) = lv') (kk : ∀ ls' : Array Slot, lv_has ls' nL lv' → W p l e R s m args below meth c H locs cells slots Q (F0 m (pc + 3) ls' rest)) : W p l e R s m args below meth c H locs cells slots Q (F0 m pc ls rest) := lv_iinc hx hb hd h hk (by rw [Int.natCast_add]; exact iI_add a n) hn hl kk
theorem k_iald (hx : p.tables.exec = Jvm.exec) (hb : c.code = cc) (hG : GK G s) (hP : va_P G.1 vwCl ws H) (q0 : Nat) {a n : Nat} {F : Nat → Int} (ha : ws[q0]? = some (a, .inl (G.2 0, n, .inl (fun k => iI (F k))))) {z : Int} (h : 0 ≤ z ∧ z < n) (hn : n < 2147483648) (hd : decode cc pc = .ok (.iaload, 1)) (k : W p l e R s m args below meth c H locs cells slots Q (F0 m (pc + 1) ls (.int (iI (F z.toNat)) :: rest))) : W p l e R s m args below meth c H locs cells slots Q (F0 m pc ls (.int (iI z) :: .ref a :: rest)) := va_iald hx hb hG.1 hP q0 0 ha rfl (iI_in h hn) hd (by rw [iI_clamp ⟨h.1, by omega⟩]; exact k)
theorem k_ialdN (hx : p.tables.exec = Jvm.exec) (hb : c.code = cc) (hG : GK G s) (hP : va_P G.1 vwCl ws H) (q0 : Nat) {a n : Nat} {F : Nat → Int} (ha : ws[q0]? = some (a, .inl (G.2 0, n, .inl (fun k => iI (F k))))) {z : Nat} (h : z < n) (hn : n < 2147483648) (hd : decode cc pc = .ok (.iaload, 1)) (k : W p l e R s m args below meth c H locs cells slots Q (F0 m (pc + 1) ls (.int (iI (F z)) :: rest))) : W p l e R s m args below meth c H locs cells slots Q (F0 m pc ls (.int (iI (z : Int)) :: .ref a :: rest)) := k_iald hx hb hG hP q0 ha (by omega) hn hd k
theorem k_zaldN (hx : p.tables.exec = Jvm.exec) (hb : c.code = cc) (hG : GK G s) (hP : va_P G.1 vwCl ws H) (q0 : Nat) {a n : Nat} {F : Nat → Bool} (ha : ws[q0]? = some (a, .inl (G.2 1, n, .inl (fun k => iI (b2i (F k)))))) {z : Nat} (h : z < n) (hn : n < 2147483648) (hd : decode cc pc = .ok (.baload, 1)) (k : W p l e R s m args below meth c H locs cells slots Q (F0 m (pc + 1) ls (.int (iI (b2i (F z))) :: rest))) : W p l e R s m args below meth c H locs cells slots Q (F0 m pc ls (.int (iI (z : Int)) :: .ref a :: rest)) := va_zald hx hb hG.1 hP q0 1 ha rfl (iI_in (by omega) hn) hd (by rw [iI_clamp (by omega)]; exact k)
theorem k_aldqN (hx : p.tables.exec = Jvm.exec) (hb : c.code = cc) (hG : GK G s) (hP : va_P G.1 vwCl ws H) (q0 t0 : Nat) {a n : Nat} {cA : ClassId} {C : String} {F : Nat → Option Nat} (ha : ws[q0]? = some (a, .inl (cA, n, .inr (.inr (.inr (.inr F)))))) (ht : (gT G)[t0]? = some (cA, .object C)) {z : Nat} (h : z < n) (hn : n < 2147483648) (hd : decode cc pc = .ok (.aaload, 1)) (k : W p l e R s m args below meth c H locs cells slots Q (F0 m (pc + 1) ls (va_rf (F z) :: rest))) : W p l e R s m args below meth c H locs cells slots Q (F0 m pc ls (.int (iI (z : Int)) :: .ref a :: rest)) := va_aldq hx hb hG.1 hP q0 t0 ha ht (iI_in (by omega) hn) hd (by rw [iI_clamp (by omega)]; exact k)
theorem k_alen (hx : p.tables.exec = Jvm.exec) (hb : c.code = cc) (hG : GK G s) (hP : va_P G.1 vwCl ws H) (q0 t0 : Nat) {a : Nat} {cA : ClassId} {x : vp_A} {ty : FieldType} (ha : ws[q0]? = some (a, .inl (cA, x))) (ht : (gT G)[t0]? = some (cA, ty)) (hd : decode cc pc = .ok (.arraylength, 1)) (k : W p l e R s m args below meth c H locs cells slots Q (F0 m (pc + 1) ls (.int (iI ((x.1 : Nat) : Int)) :: rest))) : W p l e R s m args below meth c H locs cells slots Q (F0 m pc ls (.ref a :: rest)) := va_alen hx hb hG.1 hP q0 t0 ha ht (iI_nat x.1) hd k
theorem upd_iI (F : Nat → Int) (j : Nat) (v : Int) : upd (fun k => iI (F k)) j (iI v) = fun k => iI (va_up F j v k) := by
  funext k
  simp only [upd, va_up]
  split <;> rfl
theorem upd_bI (F : Nat → Bool) (j : Nat) (v : Bool) : upd (fun k => iI (b2i (F k))) j (iI (b2i v)) = fun k => iI (b2i (va_up F j v k)) := by
  funext k
  simp only [upd, va_up]
  split <;> rfl
theorem k_iastN (hx : p.tables.exec = Jvm.exec) (hb : c.code = cc) (hG : GK G s) (hP : va_P G.1 vwCl ws H) (hD : va_D A ws) (hS : va_S A H0 H locs) (q0 : Nat) {a n : Nat} {F : Nat → Int} (w1 : va_W) (ha : ws[q0]? = some (a, .inl (G.2 0, n, .inl (fun k => iI (F k))))) {z : Nat} {v : Int} (h : z < n) (hn : n < 2147483648) (hw : ws.set q0 (a, .inl (G.2 0, n, .inl (fun k => iI (va_up F z v k)))) = w1) (hd : decode cc pc = .ok (.iastore, 1)) (kk : ∀ (H1 : Heap) (locs1 : List Loc), va_P G.1 vwCl w1 H1 → va_D A w1 → va_S A H0 H1 locs1 → W p l e R s m args below meth c H1 locs1 cells slots Q (F0 m (pc + 1) ls rest)) : W p l e R s m args below meth c H locs cells slots Q (F0 m pc ls (.int (iI v) :: .int (iI (z : Int)) :: .ref a :: rest)) := va_iast hx hb hG.1 hP hD hS q0 0 ha rfl (iI_in (by omega) hn) hd (fun H1 locs1 h1 h2 h3 => by
  rw [iI_clamp (by omega), upd_iI, Int.toNat_natCast, hw] at h1 h2
  exact kk H1 locs1 h1 h2 h3)
theorem k_zastN (hx : p.tables.exec = Jvm.exec) (hb : c.code = cc) (hG : GK G s) (hP : va_P G.1 vwCl ws H) (hD : va_D A ws) (hS : va_S A H0 H locs) (q0 : Nat) {a n : Nat} {F : Nat → Bool} (w1 : va_W) (ha : ws[q0]? = some (a, .inl (G.2 1, n, .inl (fun k => iI (b2i (F k)))))) {z : Nat} {v : Bool} (h : z < n) (hn : n < 2147483648) (hw : ws.set q0 (a, .inl (G.2 1, n, .inl (fun k => iI (b2i (va_up F z v k))))) = w1) (hd : decode cc pc = .ok (.bastore, 1)) (kk : ∀ (H1 : Heap) (locs1 : List Loc), va_P G.1 vwCl w1 H1 → va_D A w1 → va_S A H0 H1 locs1 → W p l e R s m args below meth c H1 locs1 cells slots Q (F0 m (pc + 1) ls rest)) : W p l e R s m args below meth c H locs cells slots Q (F0 m pc ls (.int (iI (b2i v)) :: .int (iI (z : Int)) :: .ref a :: rest)) := va_zast hx hb hG.1 hP hD hS q0 1 ha rfl (iI_in (by omega) hn) hd (fun H1 locs1 h1 h2 h3 => by
  rw [b2i_vp, iI_clamp (by omega), upd_bI, Int.toNat_natCast, hw] at h1 h2
  exact kk H1 locs1 h1 h2 h3)
/-- a call of a method that only reads: the heap stays, the answer comes -/
theorem k_roRun {v : Value} {a : Array Value} {st0 : List Value} (hr : va_Run p l e R s m args below meth c H locs cells slots 0 0 (F0 m pc ls st0) rest (roQ v a) (fun _ => False)) (k : W p l e R s m args below meth c H locs cells slots Q (F0 m (pc + 3) ls (v :: rest))) : W p l e R s m args below meth c H locs cells slots Q (F0 m pc ls st0) := by
  intro T hT X
  obtain ⟨v', st₀, t, T', L, h0, X', hL, e1, e2, ⟨hv, hh⟩, st⟩ := hr T hT X
  cases hv
  obtain ⟨t2, a1, b1⟩ := k T' (by rw [e1, hh, h0]) (Stand.forget X' (fun q h => (hL q h).elim))
  exact ⟨t2, st t2 a1, b1⟩
theorem k_roV {y : MethodName} {bytes : ByteArray} {maxL nL n index : Nat} {ret : Option FieldType} {wy Ts : List Cond} {rm : Room} {own C : String} {b : Addr} {w : va_W} {v : Value} (As : List Value) {st0 : List Value} (S : CallFix p m c cc nL s args Ts own) (hM : Met l y wy rm (ro G (.ref b :: As) w) (roQ v) 0 0 (fun _ => False)) (cw : CallW R s args own C index y bytes maxL ret wy rm 0 0 n) (hG : GK G s) (hr : ∃ cellB : Cell, H[b]? = some cellB ∧ cellB.vm.isStatics = false ∧ s.vm.findClass C = some cellB.cls) (hw : va_P G.1 vwCl w H) (hst : st0 = As.reverse ++ .ref b :: rest) (hn : As.length = n) (hsize : ls.size = nL) (hW : (rest.map fun v => v.category).sum ≤ 8) (hf : cells ≤ R.cells ∧ slots ≤ R.slots) (hd : decode cc pc = .ok (.invokevirtual index, 3)) (k : W p l e R s m args below meth c H locs cells slots Q (F0 m (pc + 3) ls (v :: rest))) : W p l e R s m args below meth c H locs cells slots Q (F0 m pc ls st0) :=
  k_roRun (va_runV (As := As) (rest := rest) S hM cw ⟨ro_blind _ _ _, hr, fun U hU hW => ⟨rfl, GK.warm hW hG, by rw [hU]; exact hw⟩⟩ rfl hn hsize hst (lv_room hW) hd hf) k
theorem k_roS {y : MethodName} {bytes : ByteArray} {maxL nL n index : Nat} {ret : Option FieldType} {wy Ts : List Cond} {rm : Room} {own : String} {w : va_W} {v : Value} (As : List Value) {st0 : List Value} (S : CallFix p m c cc nL s args Ts own) (hM : Met l y wy rm (ro G As w) (roQ v) 0 0 (fun _ => False)) (cw : CallB R s args own index y bytes maxL ret wy rm 0 0 n ∧ (Cond.static y).before args s = true) (hG : GK G s) (hw : va_P G.1 vwCl w H) (hst : st0 = As.reverse ++ rest) (hn : As.length = n) (hsize : ls.size = nL) (hW : (rest.map fun v => v.category).sum ≤ 8) (hf : cells ≤ R.cells ∧ slots ≤ R.slots) (hd : decode cc pc = .ok (.invokestatic index, 3)) (k : W p l e R s m args below meth c H locs cells slots Q (F0 m (pc + 3) ls (v :: rest))) : W p l e R s m args below meth c H locs cells slots Q (F0 m pc ls st0) :=
  k_roRun (va_runS (As := As) (rest := rest) S hM cw ⟨ro_blind _ _ _, fun U hU hW => ⟨rfl, GK.warm hW hG, by rw [hU]; exact hw⟩⟩ rfl hn hsize hst (lv_room hW) hd hf) k
theorem k_roN {y : MethodName} {bytes : ByteArray} {maxL nL n index : Nat} {ret : Option FieldType} {wy Ts : List Cond} {rm : Room} {own host : String} {w : va_W} {v : Value} (As : List Value) {st0 : List Value} (S : CallFix p m c cc nL s args Ts own) (hM : Met l y wy rm (ro G As w) (roQ v) 0 0 (fun _ => False)) (cw : va_CN R s args own index y host bytes maxL ret wy rm 0 0 n ∧ (Cond.static y).before args s = true ∧ True) (hG : GK G s) (hw : va_P G.1 vwCl w H) (hst : st0 = As.reverse ++ rest) (hn : As.length = n) (hsize : ls.size = nL) (hW : (rest.map fun v => v.category).sum ≤ 8) (hf : cells ≤ R.cells ∧ slots ≤ R.slots) (hd : decode cc pc = .ok (.invokestatic index, 3)) (k : W p l e R s m args below meth c H locs cells slots Q (F0 m (pc + 3) ls (v :: rest))) : W p l e R s m args below meth c H locs cells slots Q (F0 m pc ls st0) :=
  k_roRun (va_runSN (As := As) (rest := rest) S hM cw ⟨ro_blind _ _ _, fun U hU hW => ⟨rfl, GK.warm hW hG, by rw [hU]; exact hw⟩⟩ rfl hn hsize hst (lv_room hW) hd hf) k
theorem ro_iret {a b : Int} (hx : p.tables.exec = Jvm.exec) (hb : c.code = cc) (hr : meth.sig.returnType = some .int) (hlocks : meth.locks = false) (hd : decode cc pc = .ok (.ireturn, 1)) (hv : a = b) : W p l e R s m args below meth c s.heap [] cells slots (MQ below (roQ (.int (iI b))) args s cells slots (fun _ => False)) (F0 m pc ls [.int (iI a)]) := W.iret hx hb hr (fun t ht _ => ⟨by rw [hv], ht⟩) (fun q h => by cases h) hd hlocks
theorem ro_zret {a : Int} {b : Bool} (hx : p.tables.exec = Jvm.exec) (hb : c.code = cc) (hr : meth.sig.returnType = some .boolean) (hlocks : meth.locks = false) (hd : decode cc pc = .ok (.ireturn, 1)) (hv : a = b2i b) : W p l e R s m args below meth c s.heap [] cells slots (MQ below (roQ (.int (iI (b2i b)))) args s cells slots (fun _ => False)) (F0 m pc ls [.int (iI a)]) := by
  subst hv
  exact W.zret hx hb hr (b2i_nar b) (fun t ht _ => ⟨rfl, ht⟩) (fun q h => by cases h) hd hlocks
theorem ro_aret {v w : Value} {C : String} (hx : p.tables.exec = Jvm.exec) (hb : c.code = cc) (hr : meth.sig.returnType = some (.object C)) (hlocks : meth.locks = false) (hd : decode cc pc = .ok (.areturn, 1)) (hn : v = .null ∨ ∃ a, v = .ref a) (hv : v = w) : W p l e R s m args below meth c s.heap [] cells slots (MQ below (roQ w) args s cells slots (fun _ => False)) (F0 m pc ls [v]) := W.aret hx hb hr (Or.inl ⟨_, rfl⟩) hn (fun t ht _ => ⟨by rw [hv], ht⟩) (fun q h => by cases h) hd hlocks
end KX
/-- a method that only reads, from its entry -/
theorem ro_of {l : Launch} {G : GG} {y : MethodName} {wy wy' : List Cond} {rm : Room} {av : List Value} {w : va_W} {v : Value} {cc : ByteArray} {maxL : Nat} {ret : Option FieldType} (hy : plainName y.cls = true) (hwy : wy = Cond.code y cc maxL ret :: wy') (hlen : (lg_sl av).length ≤ maxL)
    (body : ∀ (p : Program) (e : Env) (s : State) (m : MethodId) (below : List Frame) (meth : Method) (c : Code), p.tables.exec = Jvm.exec → c.code = cc → meth.sig.returnType = ret → (∀ x ∈ wy, x.before av.toArray s = true) → s.vm.findClass y.cls = some m.cls → meth.locks = false → c.maxLocals = maxL → GK G s → va_P G.1 vwCl w s.heap → ∀ ls : Array Slot, lv_has ls maxL (lv_args 0 av) → W p l e rm s m av.toArray below meth c s.heap [] 0 0 (MQ below (roQ v) av.toArray s 0 0 (fun _ => False)) (F0 m 0 ls [])) : Met l y wy rm (ro G av w) (roQ v) 0 0 (fun _ => False) := by
  refine Met.ofW (cc := cc) (maxL := maxL) (ret := ret) hy hwy ?_
  intro p e s m args below meth c s₁ B hml hv
  obtain ⟨rfl, hG, hP⟩ := hv
  rw [lg_entry_eq]
  exact body p e s m below meth c B.exec B.bytes B.returns (atoms_spec (ws := wy) B.pre) (findClass_of_methodNamed B.named) B.notSynchronized hml hG hP _ (lv_entry av hlen)
