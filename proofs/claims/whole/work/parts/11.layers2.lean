theorem lyW_lt {F : Nat → Nat} (hF : ∀ k, F k < 65536) (a : Nat) (z : Int) : lyW F a z < 65536 := by
  unfold lyW
  split
  · exact hF _
  · omega
theorem lyOr_lt {F : Nat → Nat} (hF : ∀ k, F k < 65536) (a : Nat) (z : Int) : ∀ k, lyOr F a z k < 65536
  | 0 => by show 0 < 65536; decide
  | k + 1 => Nat.or_lt_two_pow (n := 16) (lyOr_lt hF a z k) (lyW_lt hF a _)
theorem lyAnd_lt {F : Nat → Nat} (a : Nat) {x : Nat} (hx : x < 65536) (z : Int) : ∀ k, lyAnd F a x z k < 65536
  | 0 => hx
  | k + 1 => Nat.lt_of_le_of_lt Nat.and_le_left (lyAnd_lt a hx z k)
theorem popN_le (a : Nat) : ∀ k, popN a k ≤ k
  | 0 => Nat.le_refl _
  | k + 1 => by
    have := popN_le a k
    unfold popN
    split <;> omega
theorem pop_le (a : Nat) : pop a ≤ 16 := popN_le a 16
def bcA (a : Nat) : Nat := a - ((a >>> 1) &&& 1431655765)
def bcB (a : Nat) : Nat := (a &&& 858993459) + ((a >>> 2) &&& 858993459)
def bcC (a : Nat) : Nat := (a + (a >>> 4)) &&& 252645135
def bcD (a : Nat) : Nat := a + (a >>> 8)
def bcE (a : Nat) : Nat := a + (a >>> 16)
theorem and_split {a b c d : Nat} (hb : b < 256) (hd : d < 256) : (256 * a + b) &&& (256 * c + d) = 256 * (a &&& c) + (b &&& d) := by
  have h3 : b &&& d < 256 := Nat.lt_of_le_of_lt Nat.and_le_left hb
  apply Nat.eq_of_testBit_eq
  intro i
  rw [Nat.testBit_and, Nat.testBit_two_pow_mul_add a (i := 8) hb, Nat.testBit_two_pow_mul_add c (i := 8) hd, Nat.testBit_two_pow_mul_add (a &&& c) (i := 8) h3]
  split <;> rw [Nat.testBit_and]
def uA (b : Nat) : Nat := b - ((b / 2) &&& 85)
def uB (b : Nat) : Nat := (b &&& 51) + ((b / 4) &&& 51)
def uC (b : Nat) : Nat := (b + b / 16) &&& 15
theorem u_tab : ∀ b, b < 256 → ((b / 2) &&& 85) ≤ b ∧ uB (uA b) / 16 ≤ 4 ∧ uB (uA b) % 16 ≤ 4 ∧ uC (uB (uA b)) = popN b 8 ∧ uA b < 256 ∧ ((128 + b / 2) &&& 85) = (b / 2) &&& 85 := by decide +kernel
theorem u_tab2 : ∀ b, b < 256 → ((192 + b / 4) &&& 51) = (b / 4) &&& 51 ∧ ((128 + b / 4) &&& 51) = (b / 4) &&& 51 ∧ ((64 + b / 4) &&& 51) = (b / 4) &&& 51 ∧ b &&& 51 ≤ 51 ∧ (b / 4) &&& 51 ≤ 51 := by decide +kernel
theorem bcA_s {a b : Nat} (ha : a < 256) (hb : b < 256) : ((256 * a + b) >>> 1) &&& 1431655765 ≤ 256 * a + b ∧ bcA (256 * a + b) = 256 * uA a + uA b := by
  have e1 : (256 * a + b) >>> 1 = 256 * (a / 2) + (a % 2 * 128 + b / 2) := by rw [Nat.shiftRight_eq_div_pow]; omega
  have e2 : (256 * (a / 2) + (a % 2 * 128 + b / 2)) &&& 1431655765 = 256 * ((a / 2) &&& 5592405) + ((a % 2 * 128 + b / 2) &&& 85) := and_split (c := 5592405) (d := 85) (by omega) (by decide)
  have e3 : (a % 2 * 128 + b / 2) &&& 85 = (b / 2) &&& 85 := by
    rcases (show a % 2 = 0 ∨ a % 2 = 1 by omega) with q | q
    · rw [q, Nat.zero_mul, Nat.zero_add]
    · rw [q, Nat.one_mul]; exact (u_tab b hb).2.2.2.2.2
  have e4 : (a / 2) &&& 5592405 = (a / 2) &&& 85 := by
    have := and_split (a := 0) (b := a / 2) (c := 21845) (d := 85) (by omega) (by decide)
    rwa [Nat.mul_zero, Nat.zero_add, Nat.zero_and, Nat.mul_zero, Nat.zero_add] at this
  have t1 := (u_tab a ha).1
  have t2 := (u_tab b hb).1
  unfold bcA uA
  rw [e1, e2, e3, e4]
  omega
theorem bcB_s {a b : Nat} (ha : a < 256) (hb : b < 256) : bcB (256 * a + b) = 256 * uB a + uB b := by
  have e1 : (256 * a + b) >>> 2 = 256 * (a / 4) + (a % 4 * 64 + b / 4) := by rw [Nat.shiftRight_eq_div_pow]; omega
  have e2 : (256 * (a / 4) + (a % 4 * 64 + b / 4)) &&& 858993459 = 256 * ((a / 4) &&& 3355443) + ((a % 4 * 64 + b / 4) &&& 51) := and_split (c := 3355443) (d := 51) (by omega) (by decide)
  have e3 : (a % 4 * 64 + b / 4) &&& 51 = (b / 4) &&& 51 := by
    have t := u_tab2 b hb
    rcases (show a % 4 = 0 ∨ a % 4 = 1 ∨ a % 4 = 2 ∨ a % 4 = 3 by omega) with q | q | q | q
    · rw [q, Nat.zero_mul, Nat.zero_add]
    · rw [q]; exact t.2.2.1
    · rw [q]; exact t.2.1
    · rw [q]; exact t.1
  have e4 : ∀ x, x < 256 → x &&& 3355443 = x &&& 51 := fun x hx => by
    have := and_split (a := 0) (b := x) (c := 13107) (d := 51) hx (by decide)
    rwa [Nat.mul_zero, Nat.zero_add, Nat.zero_and, Nat.mul_zero, Nat.zero_add] at this
  have e5 : (256 * a + b) &&& 858993459 = 256 * (a &&& 3355443) + (b &&& 51) := and_split (c := 3355443) (d := 51) hb (by decide)
  unfold bcB uB
  rw [e1, e2, e3, e4 _ (by omega), e5, e4 a ha]
  omega
theorem bcC_s {a b : Nat} (ha : a / 16 ≤ 4 ∧ a % 16 ≤ 4) (hb : b / 16 ≤ 4 ∧ b % 16 ≤ 4) : bcC (256 * a + b) = 256 * uC a + uC b := by
  have e1 : (256 * a + b) + (256 * a + b) >>> 4 = 256 * (a + a / 16) + (b + a % 16 * 16 + b / 16) := by rw [Nat.shiftRight_eq_div_pow]; omega
  have e2 : (256 * (a + a / 16) + (b + a % 16 * 16 + b / 16)) &&& 252645135 = 256 * ((a + a / 16) &&& 986895) + ((b + a % 16 * 16 + b / 16) &&& 15) := and_split (c := 986895) (d := 15) (by omega) (by decide)
  have e3 : ∀ x, x &&& 15 = x % 16 := fun x => Nat.and_two_pow_sub_one_eq_mod x 4
  have e4 : (a + a / 16) &&& 986895 = (a + a / 16) &&& 15 := by
    have := and_split (a := 0) (b := a + a / 16) (c := 3855) (d := 15) (by omega) (by decide)
    rwa [Nat.mul_zero, Nat.zero_add, Nat.zero_and, Nat.mul_zero, Nat.zero_add] at this
  unfold bcC uC
  rw [e1, e2, e4, e3, e3, e3]
  omega
theorem popN_split {a b : Nat} (hb : b < 256) : ∀ k, popN (256 * a + b) (8 + k) = popN b 8 + popN a k
  | 0 => by
    have key : ∀ j, j ≤ 8 → popN (256 * a + b) j = popN b j := by
      intro j
      induction j with
      | zero => intro _; rfl
      | succ j ih =>
        intro hj
        have e : (256 * a + b).testBit j = b.testBit j := by
          rw [Nat.testBit_two_pow_mul_add a (i := 8) hb, if_pos (by omega)]
        rw [popN, popN, ih (by omega), e]
    rw [Nat.add_zero, key 8 (by omega)]
    rfl
  | k + 1 => by
    have e : (256 * a + b).testBit (8 + k) = a.testBit k := by
      rw [Nat.testBit_two_pow_mul_add a (i := 8) hb, if_neg (by omega), Nat.add_sub_cancel_left]
    have e2 : popN a (k + 1) = popN a k + (if a.testBit k then 1 else 0) := rfl
    rw [← Nat.add_assoc, popN, popN_split hb k, e, e2, Nat.add_assoc]
theorem bcN_ok {a : Nat} (h : a < 65536) : (a >>> 1) &&& 1431655765 ≤ a ∧ bcE (bcD (bcC (bcB (bcA a)))) &&& 63 = pop a ∧ bcA a < 65536 ∧ bcB (bcA a) < 65536 ∧ bcC (bcB (bcA a)) < 65536 ∧ bcD (bcC (bcB (bcA a))) < 65536 := by
  obtain ⟨u, v, hu, hv, rfl⟩ : ∃ u v, u < 256 ∧ v < 256 ∧ a = 256 * u + v := ⟨a / 256, a % 256, by omega, by omega, by omega⟩
  have t1 := u_tab u hu
  have t2 := u_tab v hv
  have s1 := bcA_s hu hv
  have s2 := bcB_s t1.2.2.2.2.1 t2.2.2.2.2.1
  have s3 := bcC_s ⟨t1.2.1, t1.2.2.1⟩ ⟨t2.2.1, t2.2.2.1⟩
  rw [s1.2, s2, s3]
  have p1 := popN_le u 8
  have p2 := popN_le v 8
  have ep : pop (256 * u + v) = popN v 8 + popN u 8 := popN_split (a := u) hv 8
  rw [t1.2.2.2.1, t2.2.2.2.1]
  have d1 : bcD (256 * popN u 8 + popN v 8) = 256 * popN u 8 + popN v 8 + popN u 8 := by
    unfold bcD
    rw [Nat.shiftRight_eq_div_pow]
    omega
  have e1 : bcE (256 * popN u 8 + popN v 8 + popN u 8) = 256 * popN u 8 + popN v 8 + popN u 8 := by
    unfold bcE
    rw [Nat.shiftRight_eq_div_pow]
    omega
  have m1 : (256 * popN u 8 + popN v 8 + popN u 8) &&& 63 = popN v 8 + popN u 8 := by
    have := Nat.and_two_pow_sub_one_eq_mod (256 * popN u 8 + popN v 8 + popN u 8) 6
    rw [show (2 ^ 6 - 1 : Nat) = 63 from rfl] at this
    rw [this]
    omega
  rw [d1, e1, m1, ep]
  refine ⟨s1.1, rfl, ?_, ?_, ?_, ?_⟩ <;> omega
def rmJ6_bitCount_0f7a4 : Room := { frames := 0, cells := 0, slots := 0, locals := 0 }
set_option maxHeartbeats 4000000 in
set_option maxRecDepth 100000 in
theorem c_J6_bitCount_0f7a4 (lM : Launch) (G : GG) (a : Nat) (h1 : a < 65536) : Met lM yJ6_bitCount_0f7a4 wsJ6_bitCount_0f7a4 rmJ6_bitCount_0f7a4 (ro G [.int (iI (((a : Nat) : Int)))] []) (roQ (.int (iI (((pop a : Nat) : Int))))) 0 0 (fun _ => False) := by
  refine ro_of (cc := cJ6_bitCount_0f7a4) (maxL := 1) (ret := (some .int)) (by decide) rfl (Nat.le_of_ble_eq_true rfl) ?_
  intro pM eM sM mM bM tM cM hx hb hr hts hown hlocks hml hG hP ls hl
  have hown : sM.vm.findClass RJ6 = some mM.cls := hown
  have hl : lv_has ls 1 [(0, .int (iI (((a : Nat) : Int))))] := hl
  refine lv_iload_n hx hb dJ6_bitCount_0f7a4_0 rfl (lv_at hl 0 rfl) ?_
  refine lv_iload_n hx hb dJ6_bitCount_0f7a4_1 rfl (lv_at hl 0 rfl) ?_
  refine lv_iconst (v := iI (1)) hx hb dJ6_bitCount_0f7a4_2 rfl ?_
  refine k_iushr (a := a) (b := 1) hx hb (by omega) (by omega) dJ6_bitCount_0f7a4_3 ?_
  refine lv_ldcw (v := iI 1431655765) hx hb hown (hts (.constant RJ6 265 (iI 1431655765)) (by decide +kernel)) dJ6_bitCount_0f7a4_4 ?_
  refine k_iand (a := a >>> 1) (b := 1431655765) hx hb dJ6_bitCount_0f7a4_7 ?_
  refine k_isubN (a := a) (b := (a >>> 1) &&& 1431655765) hx hb (bcN_ok h1).1 dJ6_bitCount_0f7a4_8 ?_
  refine lv_istore_n (lv' := [(0, .int (iI (((a - ((a >>> 1) &&& 1431655765) : Nat) : Int))))]) hx hb dJ6_bitCount_0f7a4_9 rfl hl (by decide) rfl (fun ls hl => ?_)
  have hl : lv_has ls 1 [(0, .int (iI (((bcA a : Nat)) : Int)))] := hl
  refine lv_iload_n hx hb dJ6_bitCount_0f7a4_10 rfl (lv_at hl 0 rfl) ?_
  refine lv_ldcw (v := iI 858993459) hx hb hown (hts (.constant RJ6 266 (iI 858993459)) (by decide +kernel)) dJ6_bitCount_0f7a4_11 ?_
  refine k_iand (a := bcA a) (b := 858993459) hx hb dJ6_bitCount_0f7a4_14 ?_
  refine lv_iload_n hx hb dJ6_bitCount_0f7a4_15 rfl (lv_at hl 0 rfl) ?_
  refine lv_iconst (v := iI (2)) hx hb dJ6_bitCount_0f7a4_16 rfl ?_
  refine k_iushr (a := bcA a) (b := 2) hx hb (by have := (bcN_ok h1).2.2.1; omega) (by omega) dJ6_bitCount_0f7a4_17 ?_
  refine lv_ldcw (v := iI 858993459) hx hb hown (hts (.constant RJ6 266 (iI 858993459)) (by decide +kernel)) dJ6_bitCount_0f7a4_18 ?_
  refine k_iand (a := (bcA a) >>> 2) (b := 858993459) hx hb dJ6_bitCount_0f7a4_21 ?_
  refine k_iaddN (a := ((bcA a) &&& 858993459)) (b := (((bcA a) >>> 2) &&& 858993459)) hx hb dJ6_bitCount_0f7a4_22 ?_
  refine lv_istore_n (lv' := [(0, .int (iI (((((bcA a) &&& 858993459) + (((bcA a) >>> 2) &&& 858993459) : Nat) : Int))))]) hx hb dJ6_bitCount_0f7a4_23 rfl hl (by decide) rfl (fun ls hl => ?_)
  have hl : lv_has ls 1 [(0, .int (iI (((bcB (bcA a) : Nat)) : Int)))] := hl
  refine lv_iload_n hx hb dJ6_bitCount_0f7a4_24 rfl (lv_at hl 0 rfl) ?_
  refine lv_iload_n hx hb dJ6_bitCount_0f7a4_25 rfl (lv_at hl 0 rfl) ?_
  refine lv_iconst (v := iI (4)) hx hb dJ6_bitCount_0f7a4_26 rfl ?_
  refine k_iushr (a := bcB (bcA a)) (b := 4) hx hb (by have := (bcN_ok h1).2.2.2.1; omega) (by omega) dJ6_bitCount_0f7a4_27 ?_
  refine k_iaddN (a := (bcB (bcA a))) (b := ((bcB (bcA a)) >>> 4)) hx hb dJ6_bitCount_0f7a4_28 ?_
  refine lv_ldcw (v := iI 252645135) hx hb hown (hts (.constant RJ6 267 (iI 252645135)) (by decide +kernel)) dJ6_bitCount_0f7a4_29 ?_
  refine k_iand (a := (bcB (bcA a)) + ((bcB (bcA a)) >>> 4)) (b := 252645135) hx hb dJ6_bitCount_0f7a4_32 ?_
  refine lv_istore_n (lv' := [(0, .int (iI (((((bcB (bcA a)) + ((bcB (bcA a)) >>> 4)) &&& 252645135 : Nat) : Int))))]) hx hb dJ6_bitCount_0f7a4_33 rfl hl (by decide) rfl (fun ls hl => ?_)
  have hl : lv_has ls 1 [(0, .int (iI (((bcC (bcB (bcA a)) : Nat)) : Int)))] := hl
  refine lv_iload_n hx hb dJ6_bitCount_0f7a4_34 rfl (lv_at hl 0 rfl) ?_
  refine lv_iload_n hx hb dJ6_bitCount_0f7a4_35 rfl (lv_at hl 0 rfl) ?_
  refine lv_bipush (v := iI (8)) hx hb dJ6_bitCount_0f7a4_36 (by decide) ?_
  refine k_iushr (a := bcC (bcB (bcA a))) (b := 8) hx hb (by have := (bcN_ok h1).2.2.2.2.1; omega) (by omega) dJ6_bitCount_0f7a4_38 ?_
  refine k_iaddN (a := (bcC (bcB (bcA a)))) (b := ((bcC (bcB (bcA a))) >>> 8)) hx hb dJ6_bitCount_0f7a4_39 ?_
  refine lv_istore_n (lv' := [(0, .int (iI ((((bcC (bcB (bcA a))) + ((bcC (bcB (bcA a))) >>> 8) : Nat) : Int))))]) hx hb dJ6_bitCount_0f7a4_40 rfl hl (by decide) rfl (fun ls hl => ?_)
  have hl : lv_has ls 1 [(0, .int (iI (((bcD (bcC (bcB (bcA a))) : Nat)) : Int)))] := hl
  refine lv_iload_n hx hb dJ6_bitCount_0f7a4_41 rfl (lv_at hl 0 rfl) ?_
  refine lv_iload_n hx hb dJ6_bitCount_0f7a4_42 rfl (lv_at hl 0 rfl) ?_
  refine lv_bipush (v := iI (16)) hx hb dJ6_bitCount_0f7a4_43 (by decide) ?_
  refine k_iushr (a := bcD (bcC (bcB (bcA a)))) (b := 16) hx hb (by have := (bcN_ok h1).2.2.2.2.2; omega) (by omega) dJ6_bitCount_0f7a4_45 ?_
  refine k_iaddN (a := (bcD (bcC (bcB (bcA a))))) (b := ((bcD (bcC (bcB (bcA a)))) >>> 16)) hx hb dJ6_bitCount_0f7a4_46 ?_
  refine lv_istore_n (lv' := [(0, .int (iI ((((bcD (bcC (bcB (bcA a)))) + ((bcD (bcC (bcB (bcA a)))) >>> 16) : Nat) : Int))))]) hx hb dJ6_bitCount_0f7a4_47 rfl hl (by decide) rfl (fun ls hl => ?_)
  have hl : lv_has ls 1 [(0, .int (iI (((bcE (bcD (bcC (bcB (bcA a)))) : Nat)) : Int)))] := hl
  refine lv_iload_n hx hb dJ6_bitCount_0f7a4_48 rfl (lv_at hl 0 rfl) ?_
  refine lv_bipush (v := iI (63)) hx hb dJ6_bitCount_0f7a4_49 (by decide) ?_
  refine k_iand (a := bcE (bcD (bcC (bcB (bcA a))))) (b := 63) hx hb dJ6_bitCount_0f7a4_51 ?_
  exact ro_iret (a := (((bcE (bcD (bcC (bcB (bcA a))))) &&& 63 : Nat) : Int)) hx hb hr hlocks dJ6_bitCount_0f7a4_52 (by rw [(bcN_ok h1).2.1])

def rmX0_has : Room := { frames := 2, cells := 0, slots := 0, locals := 44 }
set_option maxHeartbeats 4000000 in
set_option maxRecDepth 100000 in
theorem c_X0_has (lM : Launch) (G : GG) (h w M a : Nat) (F : Nat → Nat) (z c : Int) (h1 : a < M) (h2 : M ≤ 16) (h3 : -1000 ≤ z ∧ z ≤ 1000) (h4 : -1000 ≤ c ∧ c ≤ 1000) (h5 : ∀ k, F k < 65536) : Met lM yX0_has wsX0_has rmX0_has (ro G [.ref h, .int (iI (((a : Nat) : Int))), .int (iI (z)), .int (iI (c))] [(h, .inr (0, [.int (iI (((M : Nat) : Int))), .ref w])), (w, .inl (G.2 0, M * 16, .inl (fun iX => iI ((F iX : Nat) : Int))))]) (roQ (.int (iI (b2i (decide (lyHas F a z c)))))) 0 0 (fun _ => False) := by
  refine ro_of (cc := cX0_has) (maxL := 4) (ret := (some .boolean)) (by decide) rfl (Nat.le_of_ble_eq_true rfl) ?_
  intro pM eM sM mM bM tM cM hx hb hr hts hown hlocks hml hG hP ls hl
  have hown : sM.vm.findClass RX0 = some mM.cls := hown
  have hl : lv_has ls 4 [(0, .ref h), (1, .int (iI (((a : Nat) : Int)))), (2, .int (iI (z))), (3, .int (iI (c)))] := hl
  refine lv_iload_n hx hb dX0_has_0 rfl (lv_at hl 3 rfl) ?_
  refine lv_iconst (v := iI (0)) hx hb dX0_has_1 rfl ?_
  refine lv_bipush (v := iI (15)) hx hb dX0_has_2 (by decide) ?_
  refine k_roN (rest := []) [.int (iI (c)), .int (iI (0)), .int (iI (15))] ⟨hx, hb, hml, hown, hts⟩ (c_X4_isWithin lM G c 0 15 (by omega) (by omega) (by omega)) ⟨va_cnB 3 hts gX0_has_X4_isWithin_n44 rfl rfl rfl hG.2.1.2.2.2.2.2 (hts (.initialized RX4) (by decide +kernel)) (by decide +kernel) ⟨Nat.le_of_ble_eq_true rfl, Nat.le_of_ble_eq_true rfl⟩, hts (.static yX4_isWithin) (by decide +kernel), trivial⟩ hG (fun k q h => by simp at h) rfl rfl hl.1 (Nat.le_of_ble_eq_true rfl) ⟨Nat.zero_le _, Nat.zero_le _⟩ dX0_has_4 ?_
  refine k_ifD (P := 0 ≤ c ∧ c ≤ 15) (tgt := 28) hx hb dX0_has_7 (by decide) (fun c_7 => ?_) (fun c_7 => ?_)
  · refine lv_iconst (v := iI (0)) hx hb dX0_has_28 rfl ?_
    exact ro_zret (a := 0) hx hb hr hlocks dX0_has_29 ((b2i_f (fun q => c_7 ⟨q.1, q.2.1⟩)).symm)
  · obtain ⟨k, rfl⟩ : ∃ k : Nat, c = (k : Int) := ⟨(c).toNat, by omega⟩
    refine lv_aload_n hx hb dX0_has_10 rfl (lv_at hl 0 rfl) ?_
    refine lv_iload_n hx hb dX0_has_11 rfl (lv_at hl 1 rfl) ?_
    refine lv_iload_n hx hb dX0_has_12 rfl (lv_at hl 2 rfl) ?_
    refine k_roV (rest := []) [.int (iI (((a : Nat) : Int))), .int (iI (z))] ⟨hx, hb, hml, hown, hts⟩ (c_X0_bits lM G h w M a F z (by omega) (by omega) (by omega)) (cwV 2 hts gX0_has_X0_bits rfl rfl rfl (by decide +kernel) ⟨Nat.le_of_ble_eq_true rfl, Nat.le_of_ble_eq_true rfl⟩) hG (va_recv hG.1 hP (ci := 0) (q0 := 0) rfl rfl) (hP.sub (ws' := [(h, .inr (0, [.int (iI (((M : Nat) : Int))), .ref w])), (w, .inl (G.2 0, M * 16, .inl (fun iX => iI ((F iX : Nat) : Int))))]) [0, 1] rfl) rfl rfl hl.1 (Nat.le_of_ble_eq_true rfl) ⟨Nat.zero_le _, Nat.zero_le _⟩ dX0_has_13 ?_
    refine lv_iload_n hx hb dX0_has_16 rfl (lv_at hl 3 rfl) ?_
    refine k_ishr (a := lyW F a z) (b := k) hx hb (by have := lyW_lt h5 a z; omega) (by omega) dX0_has_17 ?_
    refine lv_iconst (v := iI (1)) hx hb dX0_has_18 rfl ?_
    refine k_iand (a := (lyW F a z) >>> k) (b := 1) hx hb dX0_has_19 ?_
    refine lv_iconst (v := iI (1)) hx hb dX0_has_20 rfl ?_
    refine k_icmp_ne (a := ((((lyW F a z) >>> k) &&& 1 : Nat) : Int)) (b := 1) (tgt := 28) hx hb (by have : (lyW F a z >>> k) &&& 1 ≤ 1 := Nat.and_le_right; omega) (by omega) dX0_has_21 (by decide) (fun c_21 => ?_) (fun c_21 => ?_)
    · refine lv_iconst (v := iI (0)) hx hb dX0_has_28 rfl ?_
      exact ro_zret (a := 0) hx hb hr hlocks dX0_has_29 ((b2i_f (fun q => c_21 (by have q2 : (lyW F a z >>> k) &&& 1 = 1 := q.2.2; omega))).symm)
    · refine lv_iconst (v := iI (1)) hx hb dX0_has_24 rfl ?_
      refine lv_goto (tgt := 29) hx hb dX0_has_25 (by decide) ?_
      exact ro_zret (a := 1) hx hb hr hlocks dX0_has_29 ((b2i_t (show lyHas F a z (k : Int) from ⟨by omega, by omega, by show (lyW F a z >>> k) &&& 1 = 1; omega⟩)).symm)

def rmX0_through : Room := { frames := 3, cells := 0, slots := 0, locals := 67 }
set_option maxRecDepth 20000 in
theorem inX0_X0_through : ∀ w ∈ wsX00, w ∈ wsX0_through := by decide +kernel
set_option maxHeartbeats 4000000 in
set_option maxRecDepth 100000 in
theorem c_X0_through (lM : Launch) (G : GG) (h w M : Nat) (F : Nat → Nat) (z c : Int) (h1 : M ≤ 16) (h2 : -1000 ≤ z ∧ z ≤ 1000) (h3 : -1000 ≤ c ∧ c ≤ 1000) (h4 : ∀ k, F k < 65536) : Met lM yX0_through wsX0_through rmX0_through (ro G [.ref h, .int (iI (z)), .int (iI (c))] [(h, .inr (0, [.int (iI (((M : Nat) : Int))), .ref w])), (w, .inl (G.2 0, M * 16, .inl (fun iX => iI ((F iX : Nat) : Int))))]) (roQ (.int (iI (((lyThru F z c M : Nat) : Int))))) 0 0 (fun _ => False) := by
  refine ro_of (cc := cX0_through) (maxL := 5) (ret := (some .int)) (by decide) rfl (Nat.le_of_ble_eq_true rfl) ?_
  intro pM eM sM mM bM tM cM hx hb hr hts hown hlocks hml hG hP ls hl
  have hown : sM.vm.findClass RX0 = some mM.cls := hown
  have hl : lv_has ls 5 [(0, .ref h), (1, .int (iI (z))), (2, .int (iI (c)))] := hl
  refine lv_iconst (v := iI (0)) hx hb dX0_through_0 rfl ?_
  refine lv_istore_n (lv' := [(3, .int (iI (0))), (0, .ref h), (1, .int (iI (z))), (2, .int (iI (c)))]) hx hb dX0_through_1 rfl hl (by decide) rfl (fun ls hl => ?_)
  refine lv_iconst (v := iI (0)) hx hb dX0_through_2 rfl ?_
  refine lv_istore (lv' := [(4, .int (iI (0))), (3, .int (iI (0))), (0, .ref h), (1, .int (iI (z))), (2, .int (iI (c)))]) hx hb dX0_through_3 hl (by decide) rfl (fun ls hl => ?_)
  have loop_5 : ∀ (n_5 : Nat) (i x : Nat), (i ≤ M) → (x = lyThru F z c i) → M + 1 - i ≤ n_5 → ∀ ls : Array Slot, lv_has ls 5 [(0, .ref h), (1, .int (iI (z))), (2, .int (iI (c))), (3, .int (iI (((x : Nat) : Int)))), (4, .int (iI (((i : Nat) : Int))))] → W pM lM eM rmX0_through sM mM ([.ref h, .int (iI (z)), .int (iI (c))] : List Value).toArray bM tM cM sM.heap [] 0 0 (MQ bM (roQ (.int (iI (((lyThru F z c M : Nat) : Int))))) ([.ref h, .int (iI (z)), .int (iI (c))] : List Value).toArray sM 0 0 (fun _ => False)) (F0 mM 5 ls []) := by
    intro n_5
    induction n_5 with
    | zero =>
      intro i x hi hxx hm_5 ls hl
      exact absurd hm_5 (by omega)
    | succ n_5 ih_5 =>
      intro i x hi hxx hm_5 ls hl
      refine lv_iload hx hb dX0_through_5 (lv_at hl 4 rfl) ?_
      refine lv_aload_n hx hb dX0_through_7 rfl (lv_at hl 0 rfl) ?_
      refine va_get (D := G.1) (ci := 0) (v := .int (iI (((M : Nat) : Int)))) (C := RX0) (T := TX0) (N := 2) hx hb hts inX0_X0_through hown hG.1 hP 0 rfl rfl 0 (by decide) (hts (.fieldLink RX0 15 "InkOverInk$Layers" "many" "I") (by decide +kernel)) (fun _ h9 => h9) rfl dX0_through_8 ?_
      refine k_icmp_ge (a := ((i : Nat) : Int)) (b := ((M : Nat) : Int)) (tgt := 38) hx hb (by omega) (by omega) dX0_through_11 (by decide) (fun c_11 => ?_) (fun c_11 => ?_)
      · refine lv_iload_n hx hb dX0_through_38 rfl (lv_at hl 3 rfl) ?_
        exact ro_iret (a := ((x : Nat) : Int)) hx hb hr hlocks dX0_through_39 (by have e9 : i = M := (by omega); rw [hxx, e9])
      · refine lv_aload_n hx hb dX0_through_14 rfl (lv_at hl 0 rfl) ?_
        refine lv_iload hx hb dX0_through_15 (lv_at hl 4 rfl) ?_
        refine lv_iload_n hx hb dX0_through_17 rfl (lv_at hl 1 rfl) ?_
        refine lv_iload_n hx hb dX0_through_18 rfl (lv_at hl 2 rfl) ?_
        refine k_roV (rest := []) [.int (iI (((i : Nat) : Int))), .int (iI (z)), .int (iI (c))] ⟨hx, hb, hml, hown, hts⟩ (c_X0_has lM G h w M i F z c (by omega) (by omega) (by omega) (by omega) h4) (cwV 3 hts gX0_through_X0_has rfl rfl rfl (by decide +kernel) ⟨Nat.le_of_ble_eq_true rfl, Nat.le_of_ble_eq_true rfl⟩) hG (va_recv hG.1 hP (ci := 0) (q0 := 0) rfl rfl) (hP.sub (ws' := [(h, .inr (0, [.int (iI (((M : Nat) : Int))), .ref w])), (w, .inl (G.2 0, M * 16, .inl (fun iX => iI ((F iX : Nat) : Int))))]) [0, 1] rfl) rfl rfl hl.1 (Nat.le_of_ble_eq_true rfl) ⟨Nat.zero_le _, Nat.zero_le _⟩ dX0_through_19 ?_
        refine k_ifD (P := lyHas F i z c) (tgt := 32) hx hb dX0_through_22 (by decide) (fun c_22 => ?_) (fun c_22 => ?_)
        · refine k_iincN (n := 1) (lv' := [(4, .int (iI (((i + 1 : Nat) : Int)))), (0, .ref h), (1, .int (iI (z))), (2, .int (iI (c))), (3, .int (iI (((x : Nat) : Int))))]) hx hb dX0_through_32 hl (k := 4) rfl (by decide) rfl (fun ls hl => ?_)
          refine lv_goto (tgt := 5) hx hb dX0_through_35 (by decide) ?_
          exact ih_5 (i + 1) x (by omega) (by first | (rw [lyThru, if_pos c_22, hxx]; done) | (rw [lyThru, if_neg c_22, hxx]; done)) (by omega) ls (lv_sub hl [1, 2, 3, 4, 0] rfl)
        · refine lv_iload_n hx hb dX0_through_25 rfl (lv_at hl 3 rfl) ?_
          refine lv_iconst (v := iI (1)) hx hb dX0_through_26 rfl ?_
          refine lv_iload hx hb dX0_through_27 (lv_at hl 4 rfl) ?_
          refine k_ishl (a := 1) (b := i) hx hb (by omega) dX0_through_29 ?_
          refine k_ior (a := x) (b := 1 <<< i) hx hb dX0_through_30 ?_
          refine lv_istore_n (lv' := [(3, .int (iI (((x ||| (1 <<< i) : Nat) : Int)))), (0, .ref h), (1, .int (iI (z))), (2, .int (iI (c))), (4, .int (iI (((i : Nat) : Int))))]) hx hb dX0_through_31 rfl hl (by decide) rfl (fun ls hl => ?_)
          refine k_iincN (n := 1) (lv' := [(4, .int (iI (((i + 1 : Nat) : Int)))), (3, .int (iI (((x ||| (1 <<< i) : Nat) : Int)))), (0, .ref h), (1, .int (iI (z))), (2, .int (iI (c)))]) hx hb dX0_through_32 hl (k := 4) rfl (by decide) rfl (fun ls hl => ?_)
          refine lv_goto (tgt := 5) hx hb dX0_through_35 (by decide) ?_
          exact ih_5 (i + 1) (x ||| (1 <<< i)) (by omega) (by first | (rw [lyThru, if_pos c_22, hxx]; done) | (rw [lyThru, if_neg c_22, hxx]; done)) (by omega) ls (lv_sub hl [2, 3, 4, 1, 0] rfl)
  exact loop_5 (M + 1 - 0) 0 0 (by omega) rfl (Nat.le_refl _) ls (lv_sub hl [2, 3, 4, 1, 0] rfl)

def rmX0_anyBut : Room := { frames := 2, cells := 0, slots := 0, locals := 44 }
set_option maxRecDepth 20000 in
theorem inX0_X0_anyBut : ∀ w ∈ wsX00, w ∈ wsX0_anyBut := by decide +kernel
set_option maxHeartbeats 4000000 in
set_option maxRecDepth 100000 in
theorem c_X0_anyBut (lM : Launch) (G : GG) (h w M : Nat) (F : Nat → Nat) (left z : Int) (h1 : M ≤ 16) (h2 : -1000 ≤ z ∧ z ≤ 1000) (h3 : -1000 ≤ left ∧ left ≤ 1000) : Met lM yX0_anyBut wsX0_anyBut rmX0_anyBut (ro G [.ref h, .int (iI (left)), .int (iI (z))] [(h, .inr (0, [.int (iI (((M : Nat) : Int))), .ref w])), (w, .inl (G.2 0, M * 16, .inl (fun iX => iI ((F iX : Nat) : Int))))]) (roQ (.int (iI (((lyAny F left z M : Nat) : Int))))) 0 0 (fun _ => False) := by
  refine ro_of (cc := cX0_anyBut) (maxL := 5) (ret := (some .int)) (by decide) rfl (Nat.le_of_ble_eq_true rfl) ?_
  intro pM eM sM mM bM tM cM hx hb hr hts hown hlocks hml hG hP ls hl
  have hown : sM.vm.findClass RX0 = some mM.cls := hown
  have hl : lv_has ls 5 [(0, .ref h), (1, .int (iI (left))), (2, .int (iI (z)))] := hl
  refine lv_iconst (v := iI (0)) hx hb dX0_anyBut_0 rfl ?_
  refine lv_istore_n (lv' := [(3, .int (iI (0))), (0, .ref h), (1, .int (iI (left))), (2, .int (iI (z)))]) hx hb dX0_anyBut_1 rfl hl (by decide) rfl (fun ls hl => ?_)
  refine lv_iconst (v := iI (0)) hx hb dX0_anyBut_2 rfl ?_
  refine lv_istore (lv' := [(4, .int (iI (0))), (3, .int (iI (0))), (0, .ref h), (1, .int (iI (left))), (2, .int (iI (z)))]) hx hb dX0_anyBut_3 hl (by decide) rfl (fun ls hl => ?_)
  have loop_5 : ∀ (n_5 : Nat) (i x : Nat), (i ≤ M) → (x = lyAny F left z i) → M + 1 - i ≤ n_5 → ∀ ls : Array Slot, lv_has ls 5 [(0, .ref h), (1, .int (iI (left))), (2, .int (iI (z))), (3, .int (iI (((x : Nat) : Int)))), (4, .int (iI (((i : Nat) : Int))))] → W pM lM eM rmX0_anyBut sM mM ([.ref h, .int (iI (left)), .int (iI (z))] : List Value).toArray bM tM cM sM.heap [] 0 0 (MQ bM (roQ (.int (iI (((lyAny F left z M : Nat) : Int))))) ([.ref h, .int (iI (left)), .int (iI (z))] : List Value).toArray sM 0 0 (fun _ => False)) (F0 mM 5 ls []) := by
    intro n_5
    induction n_5 with
    | zero =>
      intro i x hi hxx hm_5 ls hl
      exact absurd hm_5 (by omega)
    | succ n_5 ih_5 =>
      intro i x hi hxx hm_5 ls hl
      refine lv_iload hx hb dX0_anyBut_5 (lv_at hl 4 rfl) ?_
      refine lv_aload_n hx hb dX0_anyBut_7 rfl (lv_at hl 0 rfl) ?_
      refine va_get (D := G.1) (ci := 0) (v := .int (iI (((M : Nat) : Int)))) (C := RX0) (T := TX0) (N := 2) hx hb hts inX0_X0_anyBut hown hG.1 hP 0 rfl rfl 0 (by decide) (hts (.fieldLink RX0 15 "InkOverInk$Layers" "many" "I") (by decide +kernel)) (fun _ h9 => h9) rfl dX0_anyBut_8 ?_
      refine k_icmp_ge (a := ((i : Nat) : Int)) (b := ((M : Nat) : Int)) (tgt := 36) hx hb (by omega) (by omega) dX0_anyBut_11 (by decide) (fun c_11 => ?_) (fun c_11 => ?_)
      · refine lv_iload_n hx hb dX0_anyBut_36 rfl (lv_at hl 3 rfl) ?_
        exact ro_iret (a := ((x : Nat) : Int)) hx hb hr hlocks dX0_anyBut_37 (by have e9 : i = M := (by omega); rw [hxx, e9])
      · refine lv_iload hx hb dX0_anyBut_14 (lv_at hl 4 rfl) ?_
        refine lv_iload_n hx hb dX0_anyBut_16 rfl (lv_at hl 1 rfl) ?_
        refine k_icmp_eq (a := ((i : Nat) : Int)) (b := left) (tgt := 30) hx hb (by omega) (by omega) dX0_anyBut_17 (by decide) (fun c_17 => ?_) (fun c_17 => ?_)
        · refine k_iincN (n := 1) (lv' := [(4, .int (iI (((i + 1 : Nat) : Int)))), (0, .ref h), (1, .int (iI (left))), (2, .int (iI (z))), (3, .int (iI (((x : Nat) : Int))))]) hx hb dX0_anyBut_30 hl (k := 4) rfl (by decide) rfl (fun ls hl => ?_)
          refine lv_goto (tgt := 5) hx hb dX0_anyBut_33 (by decide) ?_
          exact ih_5 (i + 1) x (by omega) (by first | (rw [lyAny, if_pos c_17, hxx]; done) | (rw [lyAny, if_neg c_17, hxx]; done)) (by omega) ls (lv_sub hl [1, 2, 3, 4, 0] rfl)
        · refine lv_iload_n hx hb dX0_anyBut_20 rfl (lv_at hl 3 rfl) ?_
          refine lv_aload_n hx hb dX0_anyBut_21 rfl (lv_at hl 0 rfl) ?_
          refine lv_iload hx hb dX0_anyBut_22 (lv_at hl 4 rfl) ?_
          refine lv_iload_n hx hb dX0_anyBut_24 rfl (lv_at hl 2 rfl) ?_
          refine k_roV (rest := [.int (iI (((x : Nat) : Int)))]) [.int (iI (((i : Nat) : Int))), .int (iI (z))] ⟨hx, hb, hml, hown, hts⟩ (c_X0_bits lM G h w M i F z (by omega) (by omega) (by omega)) (cwV 2 hts gX0_anyBut_X0_bits rfl rfl rfl (by decide +kernel) ⟨Nat.le_of_ble_eq_true rfl, Nat.le_of_ble_eq_true rfl⟩) hG (va_recv hG.1 hP (ci := 0) (q0 := 0) rfl rfl) (hP.sub (ws' := [(h, .inr (0, [.int (iI (((M : Nat) : Int))), .ref w])), (w, .inl (G.2 0, M * 16, .inl (fun iX => iI ((F iX : Nat) : Int))))]) [0, 1] rfl) rfl rfl hl.1 (Nat.le_of_ble_eq_true rfl) ⟨Nat.zero_le _, Nat.zero_le _⟩ dX0_anyBut_25 ?_
          refine k_ior (a := x) (b := lyW F i z) hx hb dX0_anyBut_28 ?_
          refine lv_istore_n (lv' := [(3, .int (iI (((x ||| (lyW F i z) : Nat) : Int)))), (0, .ref h), (1, .int (iI (left))), (2, .int (iI (z))), (4, .int (iI (((i : Nat) : Int))))]) hx hb dX0_anyBut_29 rfl hl (by decide) rfl (fun ls hl => ?_)
          refine k_iincN (n := 1) (lv' := [(4, .int (iI (((i + 1 : Nat) : Int)))), (3, .int (iI (((x ||| (lyW F i z) : Nat) : Int)))), (0, .ref h), (1, .int (iI (left))), (2, .int (iI (z)))]) hx hb dX0_anyBut_30 hl (k := 4) rfl (by decide) rfl (fun ls hl => ?_)
          refine lv_goto (tgt := 5) hx hb dX0_anyBut_33 (by decide) ?_
          exact ih_5 (i + 1) (x ||| (lyW F i z)) (by omega) (by first | (rw [lyAny, if_pos c_17, hxx]; done) | (rw [lyAny, if_neg c_17, hxx]; done)) (by omega) ls (lv_sub hl [2, 3, 4, 1, 0] rfl)
  exact loop_5 (M + 1 - 0) 0 0 (by omega) rfl (Nat.le_refl _) ls (lv_sub hl [2, 3, 4, 1, 0] rfl)

def rmX0_size : Room := { frames := 1, cells := 0, slots := 0, locals := 20 }
set_option maxRecDepth 20000 in
theorem inX0_X0_size : ∀ w ∈ wsX00, w ∈ wsX0_size := by decide +kernel
set_option maxHeartbeats 4000000 in
set_option maxRecDepth 100000 in
theorem c_X0_size (lM : Launch) (G : GG) (h w M : Nat) (F : Nat → Nat) (h1 : M ≤ 16) (h2 : ∀ k, F k < 65536) : Met lM yX0_size wsX0_size rmX0_size (ro G [.ref h] [(h, .inr (0, [.int (iI (((M : Nat) : Int))), .ref w])), (w, .inl (G.2 0, M * 16, .inl (fun iX => iI ((F iX : Nat) : Int))))]) (roQ (.int (iI (((lySz F (M * 16) : Nat) : Int))))) 0 0 (fun _ => False) := by
  refine ro_of (cc := cX0_size) (maxL := 3) (ret := (some .int)) (by decide) rfl (Nat.le_of_ble_eq_true rfl) ?_
  intro pM eM sM mM bM tM cM hx hb hr hts hown hlocks hml hG hP ls hl
  have hown : sM.vm.findClass RX0 = some mM.cls := hown
  have hl : lv_has ls 3 [(0, .ref h)] := hl
  refine lv_iconst (v := iI (0)) hx hb dX0_size_0 rfl ?_
  refine lv_istore_n (lv' := [(1, .int (iI (0))), (0, .ref h)]) hx hb dX0_size_1 rfl hl (by decide) rfl (fun ls hl => ?_)
  refine lv_iconst (v := iI (0)) hx hb dX0_size_2 rfl ?_
  refine lv_istore_n (lv' := [(2, .int (iI (0))), (1, .int (iI (0))), (0, .ref h)]) hx hb dX0_size_3 rfl hl (by decide) rfl (fun ls hl => ?_)
  have loop_4 : ∀ (n_4 : Nat) (i x : Nat), (i ≤ M * 16) → (x = lySz F i) → M * 16 + 1 - i ≤ n_4 → ∀ ls : Array Slot, lv_has ls 3 [(0, .ref h), (1, .int (iI (((x : Nat) : Int)))), (2, .int (iI (((i : Nat) : Int))))] → W pM lM eM rmX0_size sM mM ([.ref h] : List Value).toArray bM tM cM sM.heap [] 0 0 (MQ bM (roQ (.int (iI (((lySz F (M * 16) : Nat) : Int))))) ([.ref h] : List Value).toArray sM 0 0 (fun _ => False)) (F0 mM 4 ls []) := by
    intro n_4
    induction n_4 with
    | zero =>
      intro i x hi hxx hm_4 ls hl
      exact absurd hm_4 (by omega)
    | succ n_4 ih_4 =>
      intro i x hi hxx hm_4 ls hl
      refine lv_iload_n hx hb dX0_size_4 rfl (lv_at hl 2 rfl) ?_
      refine lv_aload_n hx hb dX0_size_5 rfl (lv_at hl 0 rfl) ?_
      refine va_get (D := G.1) (ci := 0) (v := .ref w) (C := RX0) (T := TX0) (N := 2) hx hb hts inX0_X0_size hown hG.1 hP 0 rfl rfl 1 (by decide) (hts (.fieldLink RX0 21 "InkOverInk$Layers" "words" "[I") (by decide +kernel)) (fun _ h9 => h9) rfl dX0_size_6 ?_
      refine k_alen hx hb hG hP 1 0 rfl rfl dX0_size_9 ?_
      refine k_icmp_ge (a := ((i : Nat) : Int)) (b := ((M * 16 : Nat) : Int)) (tgt := 31) hx hb (by omega) (by omega) dX0_size_10 (by decide) (fun c_10 => ?_) (fun c_10 => ?_)
      · refine lv_iload_n hx hb dX0_size_31 rfl (lv_at hl 1 rfl) ?_
        exact ro_iret (a := ((x : Nat) : Int)) hx hb hr hlocks dX0_size_32 (by have e9 : i = M * 16 := (by omega); rw [hxx, e9])
      · refine lv_iload_n hx hb dX0_size_13 rfl (lv_at hl 1 rfl) ?_
        refine lv_aload_n hx hb dX0_size_14 rfl (lv_at hl 0 rfl) ?_
        refine va_get (D := G.1) (ci := 0) (v := .ref w) (C := RX0) (T := TX0) (N := 2) hx hb hts inX0_X0_size hown hG.1 hP 0 rfl rfl 1 (by decide) (hts (.fieldLink RX0 21 "InkOverInk$Layers" "words" "[I") (by decide +kernel)) (fun _ h9 => h9) rfl dX0_size_15 ?_
        refine lv_iload_n hx hb dX0_size_18 rfl (lv_at hl 2 rfl) ?_
        refine k_ialdN (F := (fun iX => ((F iX : Nat) : Int))) (z := i) hx hb hG hP 1 rfl (by omega) (by omega) dX0_size_19 ?_
        refine k_roS (rest := [.int (iI (((x : Nat) : Int)))]) [.int (iI (((F i : Nat) : Int)))] ⟨hx, hb, hml, hown, hts⟩ (c_J6_bitCount_0f7a4 lM G (F i) (h2 _)) (va_cwS 1 hts gX0_size_J6_bitCount_0f7a4 rfl rfl rfl (by decide +kernel) ⟨Nat.le_of_ble_eq_true rfl, Nat.le_of_ble_eq_true rfl⟩) hG (fun k q h => by simp at h) rfl rfl hl.1 (Nat.le_of_ble_eq_true rfl) ⟨Nat.zero_le _, Nat.zero_le _⟩ dX0_size_20 ?_
        refine k_iaddN (a := x) (b := (pop (F i))) hx hb dX0_size_23 ?_
        refine lv_istore_n (lv' := [(1, .int (iI (((x + (pop (F i)) : Nat) : Int)))), (0, .ref h), (2, .int (iI (((i : Nat) : Int))))]) hx hb dX0_size_24 rfl hl (by decide) rfl (fun ls hl => ?_)
        refine k_iincN (n := 1) (lv' := [(2, .int (iI (((i + 1 : Nat) : Int)))), (1, .int (iI (((x + (pop (F i)) : Nat) : Int)))), (0, .ref h)]) hx hb dX0_size_25 hl (k := 2) rfl (by decide) rfl (fun ls hl => ?_)
        refine lv_goto (tgt := 4) hx hb dX0_size_28 (by decide) ?_
        exact ih_4 (i + 1) (x + (pop (F i))) (by omega) (by rw [lySz, hxx]) (by omega) ls (lv_sub hl [2, 1, 0] rfl)
  exact loop_4 (M * 16 + 1 - 0) 0 0 (by omega) rfl (Nat.le_refl _) ls (lv_sub hl [2, 1, 0] rfl)

def rmX0_near : Room := { frames := 2, cells := 0, slots := 0, locals := 44 }
set_option maxHeartbeats 4000000 in
set_option maxRecDepth 100000 in
theorem c_X0_near (lM : Launch) (G : GG) (h w M a : Nat) (F : Nat → Nat) (z : Int) (n : Nat) (h1 : a < M) (h2 : M ≤ 16) (h3 : -500 ≤ z ∧ z ≤ 500) (h4 : n ≤ 15) (h5 : ∀ k, F k < 65536) : Met lM yX0_near wsX0_near rmX0_near (ro G [.ref h, .int (iI (((a : Nat) : Int))), .int (iI (z)), .int (iI (((n : Nat) : Int)))] [(h, .inr (0, [.int (iI (((M : Nat) : Int))), .ref w])), (w, .inl (G.2 0, M * 16, .inl (fun iX => iI ((F iX : Nat) : Int))))]) (roQ (.int (iI (((lyNear F a z n : Nat) : Int))))) 0 0 (fun _ => False) := by
  refine ro_of (cc := cX0_near) (maxL := 7) (ret := (some .int)) (by decide) rfl (Nat.le_of_ble_eq_true rfl) ?_
  intro pM eM sM mM bM tM cM hx hb hr hts hown hlocks hml hG hP ls hl
  have hown : sM.vm.findClass RX0 = some mM.cls := hown
  have hl : lv_has ls 7 [(0, .ref h), (1, .int (iI (((a : Nat) : Int)))), (2, .int (iI (z))), (3, .int (iI (((n : Nat) : Int))))] := hl
  refine lv_iconst (v := iI (0)) hx hb dX0_near_0 rfl ?_
  refine lv_istore (lv' := [(4, .int (iI (0))), (0, .ref h), (1, .int (iI (((a : Nat) : Int)))), (2, .int (iI (z))), (3, .int (iI (((n : Nat) : Int))))]) hx hb dX0_near_1 hl (by decide) rfl (fun ls hl => ?_)
  refine lv_iload_n hx hb dX0_near_3 rfl (lv_at hl 3 rfl) ?_
  refine lv_iload_n hx hb dX0_near_4 rfl (lv_at hl 4 rfl) ?_
  refine k_isub (a := z) (b := ((n : Nat) : Int)) hx hb dX0_near_5 ?_
  refine lv_istore (lv' := [(5, .int (iI (z - ((n : Nat) : Int)))), (4, .int (iI (0))), (0, .ref h), (1, .int (iI (((a : Nat) : Int)))), (2, .int (iI (z))), (3, .int (iI (((n : Nat) : Int))))]) hx hb dX0_near_6 hl (by decide) rfl (fun ls hl => ?_)
  have loop_8 : ∀ (n_8 : Nat) (r : Int) (k x : Nat), (r = z - (n : Int) + (k : Int)) → (k ≤ 2 * n + 1) → (x = lyOr F a (z - (n : Int)) k) → 2 * n + 2 - k ≤ n_8 → ∀ ls : Array Slot, lv_has ls 7 [(0, .ref h), (1, .int (iI (((a : Nat) : Int)))), (2, .int (iI (z))), (3, .int (iI (((n : Nat) : Int)))), (4, .int (iI (((x : Nat) : Int)))), (5, .int (iI (r)))] → W pM lM eM rmX0_near sM mM ([.ref h, .int (iI (((a : Nat) : Int))), .int (iI (z)), .int (iI (((n : Nat) : Int)))] : List Value).toArray bM tM cM sM.heap [] 0 0 (MQ bM (roQ (.int (iI (((lyNear F a z n : Nat) : Int))))) ([.ref h, .int (iI (((a : Nat) : Int))), .int (iI (z)), .int (iI (((n : Nat) : Int)))] : List Value).toArray sM 0 0 (fun _ => False)) (F0 mM 8 ls []) := by
    intro n_8
    induction n_8 with
    | zero =>
      intro r k x hrr hk hxx hm_8 ls hl
      exact absurd hm_8 (by omega)
    | succ n_8 ih_8 =>
      intro r k x hrr hk hxx hm_8 ls hl
      refine lv_iload hx hb dX0_near_8 (lv_at hl 5 rfl) ?_
      refine lv_iload_n hx hb dX0_near_10 rfl (lv_at hl 2 rfl) ?_
      refine lv_iload_n hx hb dX0_near_11 rfl (lv_at hl 3 rfl) ?_
      refine k_iadd (a := z) (b := ((n : Nat) : Int)) hx hb dX0_near_12 ?_
      refine k_icmp_gt (a := r) (b := z + ((n : Nat) : Int)) (tgt := 34) hx hb (by omega) (by omega) dX0_near_13 (by decide) (fun c_13 => ?_) (fun c_13 => ?_)
      · have ek : k = 2 * n + 1 := by omega
        refine lv_iload hx hb dX0_near_34 (lv_at hl 4 rfl) ?_
        refine lv_istore (lv' := [(5, .int (iI (((x : Nat) : Int)))), (0, .ref h), (1, .int (iI (((a : Nat) : Int)))), (2, .int (iI (z))), (3, .int (iI (((n : Nat) : Int)))), (4, .int (iI (((x : Nat) : Int))))]) hx hb dX0_near_36 hl (by decide) rfl (fun ls hl => ?_)
        refine lv_iconst (v := iI (1)) hx hb dX0_near_38 rfl ?_
        refine lv_istore (lv' := [(6, .int (iI (1))), (5, .int (iI (((x : Nat) : Int)))), (0, .ref h), (1, .int (iI (((a : Nat) : Int)))), (2, .int (iI (z))), (3, .int (iI (((n : Nat) : Int)))), (4, .int (iI (((x : Nat) : Int))))]) hx hb dX0_near_39 hl (by decide) rfl (fun ls hl => ?_)
        have loop_41 : ∀ (n_41 : Nat) (d y : Nat), (1 ≤ d) → (d ≤ n + 1) → (y = lyGrow x (d - 1)) → n + 2 - d ≤ n_41 → ∀ ls : Array Slot, lv_has ls 7 [(0, .ref h), (1, .int (iI (((a : Nat) : Int)))), (2, .int (iI (z))), (3, .int (iI (((n : Nat) : Int)))), (4, .int (iI (((x : Nat) : Int)))), (5, .int (iI (((y : Nat) : Int)))), (6, .int (iI (((d : Nat) : Int))))] → W pM lM eM rmX0_near sM mM ([.ref h, .int (iI (((a : Nat) : Int))), .int (iI (z)), .int (iI (((n : Nat) : Int)))] : List Value).toArray bM tM cM sM.heap [] 0 0 (MQ bM (roQ (.int (iI (((lyNear F a z n : Nat) : Int))))) ([.ref h, .int (iI (((a : Nat) : Int))), .int (iI (z)), .int (iI (((n : Nat) : Int)))] : List Value).toArray sM 0 0 (fun _ => False)) (F0 mM 41 ls []) := by
          intro n_41
          induction n_41 with
          | zero =>
            intro d y hd hdn hyy hm_41 ls hl
            exact absurd hm_41 (by omega)
          | succ n_41 ih_41 =>
            intro d y hd hdn hyy hm_41 ls hl
            refine lv_iload hx hb dX0_near_41 (lv_at hl 6 rfl) ?_
            refine lv_iload_n hx hb dX0_near_43 rfl (lv_at hl 3 rfl) ?_
            refine k_icmp_gt (a := ((d : Nat) : Int)) (b := ((n : Nat) : Int)) (tgt := 69) hx hb (by omega) (by omega) dX0_near_44 (by decide) (fun c_44 => ?_) (fun c_44 => ?_)
            · refine lv_iload hx hb dX0_near_69 (lv_at hl 5 rfl) ?_
              exact ro_iret (a := ((y : Nat) : Int)) hx hb hr hlocks dX0_near_71 (by have e9 : d - 1 = n := (by omega); rw [hyy, e9, hxx, ek, lyNear])
            · refine lv_iload hx hb dX0_near_47 (lv_at hl 5 rfl) ?_
              refine lv_iload hx hb dX0_near_49 (lv_at hl 4 rfl) ?_
              refine lv_iload hx hb dX0_near_51 (lv_at hl 6 rfl) ?_
              refine k_ishl (a := x) (b := d) hx hb (by omega) dX0_near_53 ?_
              refine lv_iload hx hb dX0_near_54 (lv_at hl 4 rfl) ?_
              refine lv_iload hx hb dX0_near_56 (lv_at hl 6 rfl) ?_
              refine k_iushr (a := x) (b := d) hx hb (by have := lyOr_lt h5 a (z - (n : Int)) k; omega) (by omega) dX0_near_58 ?_
              refine k_ior (a := x <<< d) (b := x >>> d) hx hb dX0_near_59 ?_
              refine k_ior (a := y) (b := (x <<< d) ||| (x >>> d)) hx hb dX0_near_60 ?_
              refine lv_istore (lv' := [(5, .int (iI (((y ||| ((x <<< d) ||| (x >>> d)) : Nat) : Int)))), (0, .ref h), (1, .int (iI (((a : Nat) : Int)))), (2, .int (iI (z))), (3, .int (iI (((n : Nat) : Int)))), (4, .int (iI (((x : Nat) : Int)))), (6, .int (iI (((d : Nat) : Int))))]) hx hb dX0_near_61 hl (by decide) rfl (fun ls hl => ?_)
              refine k_iincN (n := 1) (lv' := [(6, .int (iI (((d + 1 : Nat) : Int)))), (5, .int (iI (((y ||| ((x <<< d) ||| (x >>> d)) : Nat) : Int)))), (0, .ref h), (1, .int (iI (((a : Nat) : Int)))), (2, .int (iI (z))), (3, .int (iI (((n : Nat) : Int)))), (4, .int (iI (((x : Nat) : Int))))]) hx hb dX0_near_63 hl (k := 6) rfl (by decide) rfl (fun ls hl => ?_)
              refine lv_goto (tgt := 41) hx hb dX0_near_66 (by decide) ?_
              exact ih_41 (d + 1) (y ||| ((x <<< d) ||| (x >>> d))) (by omega) (by omega) (by obtain ⟨d0, rfl⟩ : ∃ d0, d = d0 + 1 := ⟨d - 1, by omega⟩; rw [show d0 + 1 + 1 - 1 = d0 + 1 from rfl, lyGrow, hyy, show d0 + 1 - 1 = d0 from rfl]) (by omega) ls (lv_sub hl [2, 3, 4, 5, 6, 1, 0] rfl)
        exact loop_41 (n + 2 - 1) 1 x (by omega) (by omega) rfl (Nat.le_refl _) ls (lv_sub hl [2, 3, 4, 5, 6, 1, 0] rfl)
      · refine lv_iload hx hb dX0_near_16 (lv_at hl 4 rfl) ?_
        refine lv_aload_n hx hb dX0_near_18 rfl (lv_at hl 0 rfl) ?_
        refine lv_iload_n hx hb dX0_near_19 rfl (lv_at hl 1 rfl) ?_
        refine lv_iload hx hb dX0_near_20 (lv_at hl 5 rfl) ?_
        refine k_roV (rest := [.int (iI (((x : Nat) : Int)))]) [.int (iI (((a : Nat) : Int))), .int (iI (r))] ⟨hx, hb, hml, hown, hts⟩ (c_X0_bits lM G h w M a F r (by omega) (by omega) (by omega)) (cwV 2 hts gX0_near_X0_bits rfl rfl rfl (by decide +kernel) ⟨Nat.le_of_ble_eq_true rfl, Nat.le_of_ble_eq_true rfl⟩) hG (va_recv hG.1 hP (ci := 0) (q0 := 0) rfl rfl) (hP.sub (ws' := [(h, .inr (0, [.int (iI (((M : Nat) : Int))), .ref w])), (w, .inl (G.2 0, M * 16, .inl (fun iX => iI ((F iX : Nat) : Int))))]) [0, 1] rfl) rfl rfl hl.1 (Nat.le_of_ble_eq_true rfl) ⟨Nat.zero_le _, Nat.zero_le _⟩ dX0_near_22 ?_
        refine k_ior (a := x) (b := lyW F a r) hx hb dX0_near_25 ?_
        refine lv_istore (lv' := [(4, .int (iI (((x ||| (lyW F a r) : Nat) : Int)))), (0, .ref h), (1, .int (iI (((a : Nat) : Int)))), (2, .int (iI (z))), (3, .int (iI (((n : Nat) : Int)))), (5, .int (iI (r)))]) hx hb dX0_near_26 hl (by decide) rfl (fun ls hl => ?_)
        refine k_iinc (lv' := [(5, .int (iI (r + (1)))), (4, .int (iI (((x ||| (lyW F a r) : Nat) : Int)))), (0, .ref h), (1, .int (iI (((a : Nat) : Int)))), (2, .int (iI (z))), (3, .int (iI (((n : Nat) : Int))))]) hx hb dX0_near_28 hl (k := 5) rfl (by decide) rfl (fun ls hl => ?_)
        refine lv_goto (tgt := 8) hx hb dX0_near_31 (by decide) ?_
        exact ih_8 (r + (1)) (k + 1) (x ||| (lyW F a r)) (by omega) (by omega) (by rw [lyOr, hxx, hrr]) (by omega) ls (lv_sub hl [2, 3, 4, 5, 1, 0] rfl)
  exact loop_8 (2 * n + 2 - 0) (z - (n : Int)) 0 0 (by omega) (by omega) rfl (Nat.le_refl _) ls (lv_sub hl [2, 3, 4, 5, 1, 0] rfl)

def rmX0_surrounded : Room := { frames := 2, cells := 0, slots := 0, locals := 44 }
set_option maxHeartbeats 4000000 in
set_option maxRecDepth 100000 in
theorem c_X0_surrounded (lM : Launch) (G : GG) (h w M a : Nat) (F : Nat → Nat) (z : Int) (n : Nat) (h1 : a < M) (h2 : M ≤ 16) (h3 : -500 ≤ z ∧ z ≤ 500) (h4 : n ≤ 15) (h5 : ∀ k, F k < 65536) : Met lM yX0_surrounded wsX0_surrounded rmX0_surrounded (ro G [.ref h, .int (iI (((a : Nat) : Int))), .int (iI (z)), .int (iI (((n : Nat) : Int)))] [(h, .inr (0, [.int (iI (((M : Nat) : Int))), .ref w])), (w, .inl (G.2 0, M * 16, .inl (fun iX => iI ((F iX : Nat) : Int))))]) (roQ (.int (iI (((lySur F a z n : Nat) : Int))))) 0 0 (fun _ => False) := by
  refine ro_of (cc := cX0_surrounded) (maxL := 7) (ret := (some .int)) (by decide) rfl (Nat.le_of_ble_eq_true rfl) ?_
  intro pM eM sM mM bM tM cM hx hb hr hts hown hlocks hml hG hP ls hl
  have hown : sM.vm.findClass RX0 = some mM.cls := hown
  have hl : lv_has ls 7 [(0, .ref h), (1, .int (iI (((a : Nat) : Int)))), (2, .int (iI (z))), (3, .int (iI (((n : Nat) : Int))))] := hl
  refine lv_aload_n hx hb dX0_surrounded_0 rfl (lv_at hl 0 rfl) ?_
  refine lv_iload_n hx hb dX0_surrounded_1 rfl (lv_at hl 1 rfl) ?_
  refine lv_iload_n hx hb dX0_surrounded_2 rfl (lv_at hl 2 rfl) ?_
  refine k_roV (rest := []) [.int (iI (((a : Nat) : Int))), .int (iI (z))] ⟨hx, hb, hml, hown, hts⟩ (c_X0_bits lM G h w M a F z (by omega) (by omega) (by omega)) (cwV 2 hts gX0_surrounded_X0_bits rfl rfl rfl (by decide +kernel) ⟨Nat.le_of_ble_eq_true rfl, Nat.le_of_ble_eq_true rfl⟩) hG (va_recv hG.1 hP (ci := 0) (q0 := 0) rfl rfl) (hP.sub (ws' := [(h, .inr (0, [.int (iI (((M : Nat) : Int))), .ref w])), (w, .inl (G.2 0, M * 16, .inl (fun iX => iI ((F iX : Nat) : Int))))]) [0, 1] rfl) rfl rfl hl.1 (Nat.le_of_ble_eq_true rfl) ⟨Nat.zero_le _, Nat.zero_le _⟩ dX0_surrounded_3 ?_
  refine lv_istore (lv' := [(4, .int (iI (((lyW F a z : Nat) : Int)))), (0, .ref h), (1, .int (iI (((a : Nat) : Int)))), (2, .int (iI (z))), (3, .int (iI (((n : Nat) : Int))))]) hx hb dX0_surrounded_6 hl (by decide) rfl (fun ls hl => ?_)
  refine lv_iload_n hx hb dX0_surrounded_8 rfl (lv_at hl 3 rfl) ?_
  refine lv_iload_n hx hb dX0_surrounded_9 rfl (lv_at hl 4 rfl) ?_
  refine k_isub (a := z) (b := ((n : Nat) : Int)) hx hb dX0_surrounded_10 ?_
  refine lv_istore (lv' := [(5, .int (iI (z - ((n : Nat) : Int)))), (4, .int (iI (((lyW F a z : Nat) : Int)))), (0, .ref h), (1, .int (iI (((a : Nat) : Int)))), (2, .int (iI (z))), (3, .int (iI (((n : Nat) : Int))))]) hx hb dX0_surrounded_11 hl (by decide) rfl (fun ls hl => ?_)
  have loop_13 : ∀ (n_13 : Nat) (r : Int) (k x : Nat), (r = z - (n : Int) + (k : Int)) → (k ≤ 2 * n + 1) → (x = lyAnd F a (lyW F a z) (z - (n : Int)) k) → 2 * n + 2 - k ≤ n_13 → ∀ ls : Array Slot, lv_has ls 7 [(0, .ref h), (1, .int (iI (((a : Nat) : Int)))), (2, .int (iI (z))), (3, .int (iI (((n : Nat) : Int)))), (4, .int (iI (((x : Nat) : Int)))), (5, .int (iI (r)))] → W pM lM eM rmX0_surrounded sM mM ([.ref h, .int (iI (((a : Nat) : Int))), .int (iI (z)), .int (iI (((n : Nat) : Int)))] : List Value).toArray bM tM cM sM.heap [] 0 0 (MQ bM (roQ (.int (iI (((lySur F a z n : Nat) : Int))))) ([.ref h, .int (iI (((a : Nat) : Int))), .int (iI (z)), .int (iI (((n : Nat) : Int)))] : List Value).toArray sM 0 0 (fun _ => False)) (F0 mM 13 ls []) := by
    intro n_13
    induction n_13 with
    | zero =>
      intro r k x hrr hk hxx hm_13 ls hl
      exact absurd hm_13 (by omega)
    | succ n_13 ih_13 =>
      intro r k x hrr hk hxx hm_13 ls hl
      refine lv_iload hx hb dX0_surrounded_13 (lv_at hl 5 rfl) ?_
      refine lv_iload_n hx hb dX0_surrounded_15 rfl (lv_at hl 2 rfl) ?_
      refine lv_iload_n hx hb dX0_surrounded_16 rfl (lv_at hl 3 rfl) ?_
      refine k_iadd (a := z) (b := ((n : Nat) : Int)) hx hb dX0_surrounded_17 ?_
      refine k_icmp_gt (a := r) (b := z + ((n : Nat) : Int)) (tgt := 39) hx hb (by omega) (by omega) dX0_surrounded_18 (by decide) (fun c_18 => ?_) (fun c_18 => ?_)
      · have ek : k = 2 * n + 1 := by omega
        refine lv_iload hx hb dX0_surrounded_39 (lv_at hl 4 rfl) ?_
        refine lv_istore (lv' := [(5, .int (iI (((x : Nat) : Int)))), (0, .ref h), (1, .int (iI (((a : Nat) : Int)))), (2, .int (iI (z))), (3, .int (iI (((n : Nat) : Int)))), (4, .int (iI (((x : Nat) : Int))))]) hx hb dX0_surrounded_41 hl (by decide) rfl (fun ls hl => ?_)
        refine lv_iconst (v := iI (1)) hx hb dX0_surrounded_43 rfl ?_
        refine lv_istore (lv' := [(6, .int (iI (1))), (5, .int (iI (((x : Nat) : Int)))), (0, .ref h), (1, .int (iI (((a : Nat) : Int)))), (2, .int (iI (z))), (3, .int (iI (((n : Nat) : Int)))), (4, .int (iI (((x : Nat) : Int))))]) hx hb dX0_surrounded_44 hl (by decide) rfl (fun ls hl => ?_)
        have loop_46 : ∀ (n_46 : Nat) (d y : Nat), (1 ≤ d) → (d ≤ n + 1) → (y = lyShr x (d - 1)) → n + 2 - d ≤ n_46 → ∀ ls : Array Slot, lv_has ls 7 [(0, .ref h), (1, .int (iI (((a : Nat) : Int)))), (2, .int (iI (z))), (3, .int (iI (((n : Nat) : Int)))), (4, .int (iI (((x : Nat) : Int)))), (5, .int (iI (((y : Nat) : Int)))), (6, .int (iI (((d : Nat) : Int))))] → W pM lM eM rmX0_surrounded sM mM ([.ref h, .int (iI (((a : Nat) : Int))), .int (iI (z)), .int (iI (((n : Nat) : Int)))] : List Value).toArray bM tM cM sM.heap [] 0 0 (MQ bM (roQ (.int (iI (((lySur F a z n : Nat) : Int))))) ([.ref h, .int (iI (((a : Nat) : Int))), .int (iI (z)), .int (iI (((n : Nat) : Int)))] : List Value).toArray sM 0 0 (fun _ => False)) (F0 mM 46 ls []) := by
          intro n_46
          induction n_46 with
          | zero =>
            intro d y hd hdn hyy hm_46 ls hl
            exact absurd hm_46 (by omega)
          | succ n_46 ih_46 =>
            intro d y hd hdn hyy hm_46 ls hl
            refine lv_iload hx hb dX0_surrounded_46 (lv_at hl 6 rfl) ?_
            refine lv_iload_n hx hb dX0_surrounded_48 rfl (lv_at hl 3 rfl) ?_
            refine k_icmp_gt (a := ((d : Nat) : Int)) (b := ((n : Nat) : Int)) (tgt := 74) hx hb (by omega) (by omega) dX0_surrounded_49 (by decide) (fun c_49 => ?_) (fun c_49 => ?_)
            · refine lv_iload hx hb dX0_surrounded_74 (lv_at hl 5 rfl) ?_
              exact ro_iret (a := ((y : Nat) : Int)) hx hb hr hlocks dX0_surrounded_76 (by have e9 : d - 1 = n := (by omega); rw [hyy, e9, hxx, ek, lySur])
            · refine lv_iload hx hb dX0_surrounded_52 (lv_at hl 5 rfl) ?_
              refine lv_iload hx hb dX0_surrounded_54 (lv_at hl 4 rfl) ?_
              refine lv_iload hx hb dX0_surrounded_56 (lv_at hl 6 rfl) ?_
              refine k_ishl (a := x) (b := d) hx hb (by omega) dX0_surrounded_58 ?_
              refine lv_iload hx hb dX0_surrounded_59 (lv_at hl 4 rfl) ?_
              refine lv_iload hx hb dX0_surrounded_61 (lv_at hl 6 rfl) ?_
              refine k_iushr (a := x) (b := d) hx hb (by have := lyAnd_lt (F := F) a (lyW_lt h5 a z) (z - (n : Int)) k; omega) (by omega) dX0_surrounded_63 ?_
              refine k_iand (a := x <<< d) (b := x >>> d) hx hb dX0_surrounded_64 ?_
              refine k_iand (a := y) (b := (x <<< d) &&& (x >>> d)) hx hb dX0_surrounded_65 ?_
              refine lv_istore (lv' := [(5, .int (iI (((y &&& ((x <<< d) &&& (x >>> d)) : Nat) : Int)))), (0, .ref h), (1, .int (iI (((a : Nat) : Int)))), (2, .int (iI (z))), (3, .int (iI (((n : Nat) : Int)))), (4, .int (iI (((x : Nat) : Int)))), (6, .int (iI (((d : Nat) : Int))))]) hx hb dX0_surrounded_66 hl (by decide) rfl (fun ls hl => ?_)
              refine k_iincN (n := 1) (lv' := [(6, .int (iI (((d + 1 : Nat) : Int)))), (5, .int (iI (((y &&& ((x <<< d) &&& (x >>> d)) : Nat) : Int)))), (0, .ref h), (1, .int (iI (((a : Nat) : Int)))), (2, .int (iI (z))), (3, .int (iI (((n : Nat) : Int)))), (4, .int (iI (((x : Nat) : Int))))]) hx hb dX0_surrounded_68 hl (k := 6) rfl (by decide) rfl (fun ls hl => ?_)
              refine lv_goto (tgt := 46) hx hb dX0_surrounded_71 (by decide) ?_
              exact ih_46 (d + 1) (y &&& ((x <<< d) &&& (x >>> d))) (by omega) (by omega) (by obtain ⟨d0, rfl⟩ : ∃ d0, d = d0 + 1 := ⟨d - 1, by omega⟩; rw [show d0 + 1 + 1 - 1 = d0 + 1 from rfl, lyShr, hyy, show d0 + 1 - 1 = d0 from rfl]) (by omega) ls (lv_sub hl [2, 3, 4, 5, 6, 1, 0] rfl)
        exact loop_46 (n + 2 - 1) 1 x (by omega) (by omega) rfl (Nat.le_refl _) ls (lv_sub hl [2, 3, 4, 5, 6, 1, 0] rfl)
      · refine lv_iload hx hb dX0_surrounded_21 (lv_at hl 4 rfl) ?_
        refine lv_aload_n hx hb dX0_surrounded_23 rfl (lv_at hl 0 rfl) ?_
        refine lv_iload_n hx hb dX0_surrounded_24 rfl (lv_at hl 1 rfl) ?_
        refine lv_iload hx hb dX0_surrounded_25 (lv_at hl 5 rfl) ?_
        refine k_roV (rest := [.int (iI (((x : Nat) : Int)))]) [.int (iI (((a : Nat) : Int))), .int (iI (r))] ⟨hx, hb, hml, hown, hts⟩ (c_X0_bits lM G h w M a F r (by omega) (by omega) (by omega)) (cwV 2 hts gX0_surrounded_X0_bits rfl rfl rfl (by decide +kernel) ⟨Nat.le_of_ble_eq_true rfl, Nat.le_of_ble_eq_true rfl⟩) hG (va_recv hG.1 hP (ci := 0) (q0 := 0) rfl rfl) (hP.sub (ws' := [(h, .inr (0, [.int (iI (((M : Nat) : Int))), .ref w])), (w, .inl (G.2 0, M * 16, .inl (fun iX => iI ((F iX : Nat) : Int))))]) [0, 1] rfl) rfl rfl hl.1 (Nat.le_of_ble_eq_true rfl) ⟨Nat.zero_le _, Nat.zero_le _⟩ dX0_surrounded_27 ?_
        refine k_iand (a := x) (b := lyW F a r) hx hb dX0_surrounded_30 ?_
        refine lv_istore (lv' := [(4, .int (iI (((x &&& (lyW F a r) : Nat) : Int)))), (0, .ref h), (1, .int (iI (((a : Nat) : Int)))), (2, .int (iI (z))), (3, .int (iI (((n : Nat) : Int)))), (5, .int (iI (r)))]) hx hb dX0_surrounded_31 hl (by decide) rfl (fun ls hl => ?_)
        refine k_iinc (lv' := [(5, .int (iI (r + (1)))), (4, .int (iI (((x &&& (lyW F a r) : Nat) : Int)))), (0, .ref h), (1, .int (iI (((a : Nat) : Int)))), (2, .int (iI (z))), (3, .int (iI (((n : Nat) : Int))))]) hx hb dX0_surrounded_33 hl (k := 5) rfl (by decide) rfl (fun ls hl => ?_)
        refine lv_goto (tgt := 13) hx hb dX0_surrounded_36 (by decide) ?_
        exact ih_13 (r + (1)) (k + 1) (x &&& (lyW F a r)) (by omega) (by omega) (by rw [lyAnd, hxx, hrr]) (by omega) ls (lv_sub hl [2, 3, 4, 5, 1, 0] rfl)
  exact loop_13 (2 * n + 2 - 0) (z - (n : Int)) 0 (lyW F a z) (by omega) (by omega) rfl (Nat.le_refl _) ls (lv_sub hl [2, 3, 4, 5, 1, 0] rfl)
