/-! the press: what it reads -/
theorem lyAny_lt {F : Nat → Nat} (hF : ∀ k, F k < 65536) (a z : Int) : ∀ n, lyAny F a z n < 65536
  | 0 => by show 0 < 65536; decide
  | n + 1 => by
    have h1 := lyAny_lt hF a z n
    unfold lyAny
    split
    · exact h1
    · exact Nat.or_lt_two_pow (n := 16) h1 (lyW_lt hF n z)
theorem lyShr_le (x : Nat) : ∀ c, lyShr x c ≤ x
  | 0 => Nat.le_refl _
  | c + 1 => Nat.le_trans Nat.and_le_left (lyShr_le x c)
theorem lySur_lt {F : Nat → Nat} (hF : ∀ k, F k < 65536) (a : Nat) (z : Int) (n : Nat) : lySur F a z n < 65536 := Nat.lt_of_le_of_lt (lyShr_le _ n) (lyAnd_lt a (lyW_lt hF a z) _ _)
theorem and_lt16 {a : Nat} (h : a < 65536) (b : Nat) : a &&& b < 65536 := Nat.lt_of_le_of_lt Nat.and_le_left h
def wrg (FI FS : Nat → Nat) (z : Int) : Nat → Nat
  | 0 => 0
  | i + 1 => wrg FI FS z i ||| (lyW FI i z ^^^ lyW FS i z)
theorem wrg_lt {FI FS : Nat → Nat} (h1 : ∀ k, FI k < 65536) (h2 : ∀ k, FS k < 65536) (z : Int) : ∀ n, wrg FI FS z n < 65536
  | 0 => by show 0 < 65536; decide
  | n + 1 => Nat.or_lt_two_pow (n := 16) (wrg_lt h1 h2 z n) (Nat.xor_lt_two_pow (n := 16) (lyW_lt h1 n z) (lyW_lt h2 n z))
def barW (FI FS : Nat → Nat) (z : Int) : Nat := lyAny FI (-1) z 4 &&& (lyAny FS (-1) z 4 ^^^ 4294967295)
def sumP (f : Nat → Nat) : Nat → Nat
  | 0 => 0
  | r + 1 => sumP f r + pop (f r)
def crwC (FS : Nat → Nat) (r : Nat) : Nat → Nat
  | 0 => 0
  | c + 1 => crwC FS r c + (if 2 < pop (lyThru FS (r : Int) (c : Int) 4) then 1 else 0)
def crw (FS : Nat → Nat) : Nat → Nat
  | 0 => 0
  | r + 1 => crw FS r + crwC FS r 16
theorem lyThru_lt (F : Nat → Nat) (z c : Int) : ∀ n, n ≤ 4 → lyThru F z c n < 65536
  | 0, _ => by show 0 < 65536; decide
  | n + 1, h => by
    have h1 := lyThru_lt F z c n (by omega)
    have h2 : 1 <<< n < 65536 := by
      rcases (show n = 0 ∨ n = 1 ∨ n = 2 ∨ n = 3 by omega) with rfl | rfl | rfl | rfl <;> decide
    unfold lyThru
    split
    · exact Nat.or_lt_two_pow (n := 16) h1 h2
    · exact h1
def mvd (x : Nat) (ac : Int) : Nat := if 0 ≤ ac then x <<< ac.toNat else x >>> (-ac).toNat
def bifW (FI FP : Nat → Nat) (a : Nat) (dw ac : Int) (r : Nat) : Nat := (lyAny FI (-1) (r : Int) 4 &&& (lyAny FP (a : Int) (r : Int) 4 ^^^ 4294967295)) &&& (mvd (lyW FP a ((r : Int) - dw)) ac ^^^ 4294967295)
def sfX (FD FP : Nat → Nat) (n r i : Nat) : Nat := (lySur FD 0 (r : Int) n &&& (lyAny FP (i : Int) (r : Int) 4 ^^^ 4294967295)) &&& (lySur FP i (r : Int) n ^^^ 4294967295)
abbrev safP (FD FP : Nat → Nat) (n : Nat) : Prop := ∀ r, r < 16 → ∀ i, i < 4 → sfX FD FP n r i = 0
def rmX1_isInGrid : Room := { frames := 1, cells := 0, slots := 0, locals := 22 }
set_option maxHeartbeats 4000000 in
set_option maxRecDepth 100000 in
theorem c_X1_isInGrid (lM : Launch) (G : GG) (r c : Int) (h1 : -2147483648 ≤ r ∧ r < 2147483648) (h2 : -2147483648 ≤ c ∧ c < 2147483648) : Met lM yX1_isInGrid wsX1_isInGrid rmX1_isInGrid (ro G [.int (iI (r)), .int (iI (c))] []) (roQ (.int (iI (b2i (decide ((0 ≤ r ∧ r ≤ 15) ∧ (0 ≤ c ∧ c ≤ 15))))))) 0 0 (fun _ => False) := by
  refine ro_of (cc := cX1_isInGrid) (maxL := 2) (ret := (some .boolean)) (by decide) rfl (Nat.le_of_ble_eq_true rfl) ?_
  intro pM eM sM mM bM tM cM hx hb hr hts hown hlocks hml hG hP ls hl
  have hown : sM.vm.findClass RX1 = some mM.cls := hown
  have hl : lv_has ls 2 [(0, .int (iI (r))), (1, .int (iI (c)))] := hl
  refine lv_iload_n hx hb dX1_isInGrid_0 rfl (lv_at hl 0 rfl) ?_
  refine lv_iconst (v := iI (0)) hx hb dX1_isInGrid_1 rfl ?_
  refine lv_bipush (v := iI (15)) hx hb dX1_isInGrid_2 (by decide) ?_
  refine k_roN (rest := []) [.int (iI (r)), .int (iI (0)), .int (iI (15))] ⟨hx, hb, hml, hown, hts⟩ (c_X4_isWithin lM G r 0 15 (by omega) (by omega) (by omega)) ⟨va_cnB 3 hts gX1_isInGrid_X4_isWithin_n133 rfl rfl rfl hG.2.1.2.1 (hts (.initialized RX4) (by decide +kernel)) (by decide +kernel) ⟨Nat.le_of_ble_eq_true rfl, Nat.le_of_ble_eq_true rfl⟩, hts (.static yX4_isWithin) (by decide +kernel), trivial⟩ hG (fun k q h => by simp at h) rfl rfl hl.1 (Nat.le_of_ble_eq_true rfl) ⟨Nat.zero_le _, Nat.zero_le _⟩ dX1_isInGrid_4 ?_
  refine k_ifD (P := 0 ≤ r ∧ r ≤ 15) (tgt := 24) hx hb dX1_isInGrid_7 (by decide) (fun c_7 => ?_) (fun c_7 => ?_)
  · refine lv_iconst (v := iI (0)) hx hb dX1_isInGrid_24 rfl ?_
    exact ro_zret (a := 0) hx hb hr hlocks dX1_isInGrid_25 ((b2i_f (by omega)).symm)
  · refine lv_iload_n hx hb dX1_isInGrid_10 rfl (lv_at hl 1 rfl) ?_
    refine lv_iconst (v := iI (0)) hx hb dX1_isInGrid_11 rfl ?_
    refine lv_bipush (v := iI (15)) hx hb dX1_isInGrid_12 (by decide) ?_
    refine k_roN (rest := []) [.int (iI (c)), .int (iI (0)), .int (iI (15))] ⟨hx, hb, hml, hown, hts⟩ (c_X4_isWithin lM G c 0 15 (by omega) (by omega) (by omega)) ⟨va_cnB 3 hts gX1_isInGrid_X4_isWithin_n133 rfl rfl rfl hG.2.1.2.1 (hts (.initialized RX4) (by decide +kernel)) (by decide +kernel) ⟨Nat.le_of_ble_eq_true rfl, Nat.le_of_ble_eq_true rfl⟩, hts (.static yX4_isWithin) (by decide +kernel), trivial⟩ hG (fun k q h => by simp at h) rfl rfl hl.1 (Nat.le_of_ble_eq_true rfl) ⟨Nat.zero_le _, Nat.zero_le _⟩ dX1_isInGrid_14 ?_
    refine k_ifD (P := 0 ≤ c ∧ c ≤ 15) (tgt := 24) hx hb dX1_isInGrid_17 (by decide) (fun c_17 => ?_) (fun c_17 => ?_)
    · refine lv_iconst (v := iI (0)) hx hb dX1_isInGrid_24 rfl ?_
      exact ro_zret (a := 0) hx hb hr hlocks dX1_isInGrid_25 ((b2i_f (by omega)).symm)
    · refine lv_iconst (v := iI (1)) hx hb dX1_isInGrid_20 rfl ?_
      refine lv_goto (tgt := 25) hx hb dX1_isInGrid_21 (by decide) ?_
      exact ro_zret (a := 1) hx hb hr hlocks dX1_isInGrid_25 ((b2i_t (by omega)).symm)

def rmX1_seenAt : Room := { frames := 2, cells := 0, slots := 0, locals := 43 }
set_option maxRecDepth 20000 in
theorem inX1_X1_seenAt : ∀ w ∈ wsX10, w ∈ wsX1_seenAt := by decide +kernel
set_option maxHeartbeats 4000000 in
set_option maxRecDepth 100000 in
theorem c_X1_seenAt (lM : Launch) (G : GG) (p sa qo qi qs qp qh dn : Nat) (SE : Nat → Int) (r c : Int) (h1 : -2147483648 ≤ r ∧ r < 2147483648) (h2 : -2147483648 ≤ c ∧ c < 2147483648) : Met lM yX1_seenAt wsX1_seenAt rmX1_seenAt (ro G [.ref p, .int (iI (r)), .int (iI (c))] [(p, .inr (1, [.ref sa, .ref qo, .ref qi, .ref qs, .ref qp, .ref qh, .int (iI (((dn : Nat) : Int)))])), (sa, .inl (G.2 0, 256, .inl (fun iX => iI (SE iX))))]) (roQ (.int (iI ((if (0 ≤ r ∧ r ≤ 15) ∧ (0 ≤ c ∧ c ≤ 15) then SE (r.toNat * 16 + c.toNat) else -1))))) 0 0 (fun _ => False) := by
  refine ro_of (cc := cX1_seenAt) (maxL := 3) (ret := (some .int)) (by decide) rfl (Nat.le_of_ble_eq_true rfl) ?_
  intro pM eM sM mM bM tM cM hx hb hr hts hown hlocks hml hG hP ls hl
  have hown : sM.vm.findClass RX1 = some mM.cls := hown
  have hl : lv_has ls 3 [(0, .ref p), (1, .int (iI (r))), (2, .int (iI (c)))] := hl
  refine lv_iload_n hx hb dX1_seenAt_0 rfl (lv_at hl 1 rfl) ?_
  refine lv_iload_n hx hb dX1_seenAt_1 rfl (lv_at hl 2 rfl) ?_
  refine k_roS (rest := []) [.int (iI (r)), .int (iI (c))] ⟨hx, hb, hml, hown, hts⟩ (c_X1_isInGrid lM G r c (by omega) (by omega)) (va_cwS 2 hts gX1_seenAt_X1_isInGrid rfl rfl rfl (by decide +kernel) ⟨Nat.le_of_ble_eq_true rfl, Nat.le_of_ble_eq_true rfl⟩) hG (fun k q h => by simp at h) rfl rfl hl.1 (Nat.le_of_ble_eq_true rfl) ⟨Nat.zero_le _, Nat.zero_le _⟩ dX1_seenAt_2 ?_
  refine k_ifD (P := (0 ≤ r ∧ r ≤ 15) ∧ (0 ≤ c ∧ c ≤ 15)) (tgt := 22) hx hb dX1_seenAt_5 (by decide) (fun c_5 => ?_) (fun c_5 => ?_)
  · refine lv_iconst (v := iI (-1)) hx hb dX1_seenAt_22 rfl ?_
    exact ro_iret (a := (-1)) hx hb hr hlocks dX1_seenAt_23 (by rw [if_neg (by omega)])
  · obtain ⟨k, rfl⟩ : ∃ k : Nat, r = (k : Int) := ⟨(r).toNat, by omega⟩
    obtain ⟨j, rfl⟩ : ∃ j : Nat, c = (j : Int) := ⟨(c).toNat, by omega⟩
    refine lv_aload_n hx hb dX1_seenAt_8 rfl (lv_at hl 0 rfl) ?_
    refine va_get (D := G.1) (ci := 1) (v := .ref sa) (C := RX1) (T := TX1) (N := 7) hx hb hts inX1_X1_seenAt hown hG.1 hP 0 rfl rfl 0 (by decide) (hts (.fieldLink RX1 9 "InkOverInk$Press" "seen" "[I") (by decide +kernel)) (fun _ h9 => h9) rfl dX1_seenAt_9 ?_
    refine lv_iload_n hx hb dX1_seenAt_12 rfl (lv_at hl 1 rfl) ?_
    refine lv_bipush (v := iI (16)) hx hb dX1_seenAt_13 (by decide) ?_
    refine k_imulN (a := k) (b := 16) hx hb dX1_seenAt_15 ?_
    refine lv_iload_n hx hb dX1_seenAt_16 rfl (lv_at hl 2 rfl) ?_
    refine k_iaddN (a := (k * 16)) (b := j) hx hb dX1_seenAt_17 ?_
    refine k_ialdN (F := SE) (z := (k * 16) + j) hx hb hG hP 1 rfl (by omega) (by decide) dX1_seenAt_18 ?_
    refine lv_goto (tgt := 23) hx hb dX1_seenAt_19 (by decide) ?_
    exact ro_iret (a := SE ((k * 16) + j)) hx hb hr hlocks dX1_seenAt_23 (by rw [if_pos (by omega)]; rfl)

def rmX1_cellsOf : Room := { frames := 0, cells := 0, slots := 0, locals := 0 }
set_option maxRecDepth 20000 in
theorem inX1_X1_cellsOf : ∀ w ∈ wsX10, w ∈ wsX1_cellsOf := by decide +kernel
set_option maxHeartbeats 4000000 in
set_option maxRecDepth 100000 in
theorem c_X1_cellsOf (lM : Launch) (G : GG) (p sa qo qi qs qp qh dn : Nat) (SE : Nat → Int) (n : Int) (h1 : -2147483648 ≤ n ∧ n < 2147483648) (h2 : ∀ k, -1 ≤ SE k ∧ SE k ≤ 29) : Met lM yX1_cellsOf wsX1_cellsOf rmX1_cellsOf (ro G [.ref p, .int (iI (n))] [(p, .inr (1, [.ref sa, .ref qo, .ref qi, .ref qs, .ref qp, .ref qh, .int (iI (((dn : Nat) : Int)))])), (sa, .inl (G.2 0, 256, .inl (fun iX => iI (SE iX))))]) (roQ (.int (iI (((cntE SE n 256 : Nat) : Int))))) 0 0 (fun _ => False) := by
  refine ro_of (cc := cX1_cellsOf) (maxL := 4) (ret := (some .int)) (by decide) rfl (Nat.le_of_ble_eq_true rfl) ?_
  intro pM eM sM mM bM tM cM hx hb hr hts hown hlocks hml hG hP ls hl
  have hown : sM.vm.findClass RX1 = some mM.cls := hown
  have hl : lv_has ls 4 [(0, .ref p), (1, .int (iI (n)))] := hl
  refine lv_iconst (v := iI (0)) hx hb dX1_cellsOf_0 rfl ?_
  refine lv_istore_n (lv' := [(2, .int (iI (0))), (0, .ref p), (1, .int (iI (n)))]) hx hb dX1_cellsOf_1 rfl hl (by decide) rfl (fun ls hl => ?_)
  refine lv_iconst (v := iI (0)) hx hb dX1_cellsOf_2 rfl ?_
  refine lv_istore_n (lv' := [(3, .int (iI (0))), (2, .int (iI (0))), (0, .ref p), (1, .int (iI (n)))]) hx hb dX1_cellsOf_3 rfl hl (by decide) rfl (fun ls hl => ?_)
  have loop_4 : ∀ (n_4 : Nat) (i x : Nat), (i ≤ 256) → (x = cntE SE n i) → 257 - i ≤ n_4 → ∀ ls : Array Slot, lv_has ls 4 [(0, .ref p), (1, .int (iI (n))), (2, .int (iI (((x : Nat) : Int)))), (3, .int (iI (((i : Nat) : Int))))] → W pM lM eM rmX1_cellsOf sM mM ([.ref p, .int (iI (n))] : List Value).toArray bM tM cM sM.heap [] 0 0 (MQ bM (roQ (.int (iI (((cntE SE n 256 : Nat) : Int))))) ([.ref p, .int (iI (n))] : List Value).toArray sM 0 0 (fun _ => False)) (F0 mM 4 ls []) := by
    intro n_4
    induction n_4 with
    | zero =>
      intro i x hi hxx hm_4 ls hl
      exact absurd hm_4 (by omega)
    | succ n_4 ih_4 =>
      intro i x hi hxx hm_4 ls hl
      refine lv_iload_n hx hb dX1_cellsOf_4 rfl (lv_at hl 3 rfl) ?_
      refine lv_aload_n hx hb dX1_cellsOf_5 rfl (lv_at hl 0 rfl) ?_
      refine va_get (D := G.1) (ci := 1) (v := .ref sa) (C := RX1) (T := TX1) (N := 7) hx hb hts inX1_X1_cellsOf hown hG.1 hP 0 rfl rfl 0 (by decide) (hts (.fieldLink RX1 9 "InkOverInk$Press" "seen" "[I") (by decide +kernel)) (fun _ h9 => h9) rfl dX1_cellsOf_6 ?_
      refine k_alen hx hb hG hP 1 0 rfl rfl dX1_cellsOf_9 ?_
      refine k_icmp_ge (a := ((i : Nat) : Int)) (b := 256) (tgt := 32) hx hb (by omega) (by omega) dX1_cellsOf_10 (by decide) (fun c_10 => ?_) (fun c_10 => ?_)
      · refine lv_iload_n hx hb dX1_cellsOf_32 rfl (lv_at hl 2 rfl) ?_
        exact ro_iret (a := ((x : Nat) : Int)) hx hb hr hlocks dX1_cellsOf_33 (by have e9 : i = 256 := (by omega); rw [hxx, e9])
      · refine lv_aload_n hx hb dX1_cellsOf_13 rfl (lv_at hl 0 rfl) ?_
        refine va_get (D := G.1) (ci := 1) (v := .ref sa) (C := RX1) (T := TX1) (N := 7) hx hb hts inX1_X1_cellsOf hown hG.1 hP 0 rfl rfl 0 (by decide) (hts (.fieldLink RX1 9 "InkOverInk$Press" "seen" "[I") (by decide +kernel)) (fun _ h9 => h9) rfl dX1_cellsOf_14 ?_
        refine lv_iload_n hx hb dX1_cellsOf_17 rfl (lv_at hl 3 rfl) ?_
        refine k_ialdN (F := SE) (z := i) hx hb hG hP 1 rfl (by omega) (by decide) dX1_cellsOf_18 ?_
        refine lv_iload_n hx hb dX1_cellsOf_19 rfl (lv_at hl 1 rfl) ?_
        refine k_icmp_ne (a := SE i) (b := n) (tgt := 26) hx hb (by have := h2 i; omega) (by omega) dX1_cellsOf_20 (by decide) (fun c_20 => ?_) (fun c_20 => ?_)
        · refine k_iincN (n := 1) (lv' := [(3, .int (iI (((i + 1 : Nat) : Int)))), (0, .ref p), (1, .int (iI (n))), (2, .int (iI (((x : Nat) : Int))))]) hx hb dX1_cellsOf_26 hl (k := 3) rfl (by decide) rfl (fun ls hl => ?_)
          refine lv_goto (tgt := 4) hx hb dX1_cellsOf_29 (by decide) ?_
          exact ih_4 (i + 1) x (by omega) (by first | (rw [cntE, if_pos c_20, hxx]; done) | (rw [cntE, if_neg c_20, hxx]; rfl)) (by omega) ls (lv_sub hl [1, 2, 3, 0] rfl)
        · refine k_iincN (n := 1) (lv' := [(2, .int (iI (((x + 1 : Nat) : Int)))), (0, .ref p), (1, .int (iI (n))), (3, .int (iI (((i : Nat) : Int))))]) hx hb dX1_cellsOf_23 hl (k := 2) rfl (by decide) rfl (fun ls hl => ?_)
          refine k_iincN (n := 1) (lv' := [(3, .int (iI (((i + 1 : Nat) : Int)))), (2, .int (iI (((x + 1 : Nat) : Int)))), (0, .ref p), (1, .int (iI (n)))]) hx hb dX1_cellsOf_26 hl (k := 3) rfl (by decide) rfl (fun ls hl => ?_)
          refine lv_goto (tgt := 4) hx hb dX1_cellsOf_29 (by decide) ?_
          exact ih_4 (i + 1) (x + 1) (by omega) (by first | (rw [cntE, if_pos c_20, hxx]; done) | (rw [cntE, if_neg c_20, hxx]; rfl)) (by omega) ls (lv_sub hl [2, 3, 1, 0] rfl)
  exact loop_4 (257 - 0) 0 0 (by omega) rfl (Nat.le_refl _) ls (lv_sub hl [2, 3, 1, 0] rfl)

def rmX1_openOf : Room := { frames := 2, cells := 0, slots := 0, locals := 44 }
set_option maxRecDepth 20000 in
theorem inX1_X1_openOf : ∀ w ∈ wsX10, w ∈ wsX1_openOf := by decide +kernel
set_option maxHeartbeats 4000000 in
set_option maxRecDepth 100000 in
theorem c_X1_openOf (lM : Launch) (G : GG) (p sa qo qi qs qp qh dn : Nat) (wo : Nat) (FO : Nat → Nat) (cs : Nat) (z : Int) (h1 : cs < 65536) (h2 : -500 ≤ z ∧ z ≤ 500) : Met lM yX1_openOf wsX1_openOf rmX1_openOf (ro G [.ref p, .int (iI (((cs : Nat) : Int))), .int (iI (z))] [(p, .inr (1, [.ref sa, .ref qo, .ref qi, .ref qs, .ref qp, .ref qh, .int (iI (((dn : Nat) : Int)))])), (qo, .inr (0, [.int (iI (16)), .ref wo])), (wo, .inl (G.2 0, 16 * 16, .inl (fun iX => iI ((FO iX : Nat) : Int))))]) (roQ (.int (iI (((opn FO cs z 15 : Nat) : Int))))) 0 0 (fun _ => False) := by
  refine ro_of (cc := cX1_openOf) (maxL := 5) (ret := (some .int)) (by decide) rfl (Nat.le_of_ble_eq_true rfl) ?_
  intro pM eM sM mM bM tM cM hx hb hr hts hown hlocks hml hG hP ls hl
  have hown : sM.vm.findClass RX1 = some mM.cls := hown
  have hl : lv_has ls 5 [(0, .ref p), (1, .int (iI (((cs : Nat) : Int)))), (2, .int (iI (z)))] := hl
  refine lv_iconst (v := iI (0)) hx hb dX1_openOf_0 rfl ?_
  refine lv_istore_n (lv' := [(3, .int (iI (0))), (0, .ref p), (1, .int (iI (((cs : Nat) : Int)))), (2, .int (iI (z)))]) hx hb dX1_openOf_1 rfl hl (by decide) rfl (fun ls hl => ?_)
  refine lv_iconst (v := iI (1)) hx hb dX1_openOf_2 rfl ?_
  refine lv_istore (lv' := [(4, .int (iI (1))), (3, .int (iI (0))), (0, .ref p), (1, .int (iI (((cs : Nat) : Int)))), (2, .int (iI (z)))]) hx hb dX1_openOf_3 hl (by decide) rfl (fun ls hl => ?_)
  have loop_5 : ∀ (n_5 : Nat) (d x : Nat), (1 ≤ d ∧ d ≤ 16) → (x = opn FO cs z (d - 1)) → 17 - d ≤ n_5 → ∀ ls : Array Slot, lv_has ls 5 [(0, .ref p), (1, .int (iI (((cs : Nat) : Int)))), (2, .int (iI (z))), (3, .int (iI (((x : Nat) : Int)))), (4, .int (iI (((d : Nat) : Int))))] → W pM lM eM rmX1_openOf sM mM ([.ref p, .int (iI (((cs : Nat) : Int))), .int (iI (z))] : List Value).toArray bM tM cM sM.heap [] 0 0 (MQ bM (roQ (.int (iI (((opn FO cs z 15 : Nat) : Int))))) ([.ref p, .int (iI (((cs : Nat) : Int))), .int (iI (z))] : List Value).toArray sM 0 0 (fun _ => False)) (F0 mM 5 ls []) := by
    intro n_5
    induction n_5 with
    | zero =>
      intro d x hd hxx hm_5 ls hl
      exact absurd hm_5 (by omega)
    | succ n_5 ih_5 =>
      intro d x hd hxx hm_5 ls hl
      refine lv_iload hx hb dX1_openOf_5 (lv_at hl 4 rfl) ?_
      refine lv_bipush (v := iI (16)) hx hb dX1_openOf_7 (by decide) ?_
      refine k_icmp_ge (a := ((d : Nat) : Int)) (b := 16) (tgt := 41) hx hb (by omega) (by omega) dX1_openOf_9 (by decide) (fun c_9 => ?_) (fun c_9 => ?_)
      · refine lv_iload_n hx hb dX1_openOf_41 rfl (lv_at hl 3 rfl) ?_
        exact ro_iret (a := ((x : Nat) : Int)) hx hb hr hlocks dX1_openOf_42 (by have e9 : d - 1 = 15 := (by omega); rw [hxx, e9])
      · refine lv_iload_n hx hb dX1_openOf_12 rfl (lv_at hl 1 rfl) ?_
        refine lv_iload hx hb dX1_openOf_13 (lv_at hl 4 rfl) ?_
        refine k_ishr (a := cs) (b := d) hx hb (by omega) (by omega) dX1_openOf_15 ?_
        refine lv_iconst (v := iI (1)) hx hb dX1_openOf_16 rfl ?_
        refine k_iand (a := cs >>> d) (b := 1) hx hb dX1_openOf_17 ?_
        refine lv_iconst (v := iI (1)) hx hb dX1_openOf_18 rfl ?_
        refine k_icmp_ne (a := (((cs >>> d) &&& 1 : Nat) : Int)) (b := 1) (tgt := 35) hx hb (by have : (cs >>> d) &&& 1 ≤ 1 := Nat.and_le_right; omega) (by omega) dX1_openOf_19 (by decide) (fun c_19 => ?_) (fun c_19 => ?_)
        · refine k_iincN (n := 1) (lv' := [(4, .int (iI (((d + 1 : Nat) : Int)))), (0, .ref p), (1, .int (iI (((cs : Nat) : Int)))), (2, .int (iI (z))), (3, .int (iI (((x : Nat) : Int))))]) hx hb dX1_openOf_35 hl (k := 4) rfl (by decide) rfl (fun ls hl => ?_)
          refine lv_goto (tgt := 5) hx hb dX1_openOf_38 (by decide) ?_
          exact ih_5 (d + 1) x (by omega) (by obtain ⟨d0, rfl⟩ : ∃ d0, d = d0 + 1 := ⟨d - 1, by omega⟩; rw [show d0 + 1 + 1 - 1 = d0 + 1 from rfl, opn]; rw [show d0 + 1 - 1 = d0 from rfl] at hxx; first | (rw [if_pos (by omega), hxx]; done) | (rw [if_neg (by omega), hxx]; done)) (by omega) ls (lv_sub hl [1, 2, 3, 4, 0] rfl)
        · refine lv_iload_n hx hb dX1_openOf_22 rfl (lv_at hl 3 rfl) ?_
          refine lv_aload_n hx hb dX1_openOf_23 rfl (lv_at hl 0 rfl) ?_
          refine va_get (D := G.1) (ci := 1) (v := .ref qo) (C := RX1) (T := TX1) (N := 7) hx hb hts inX1_X1_openOf hown hG.1 hP 0 rfl rfl 1 (by decide) (hts (.fieldLink RX1 20 "InkOverInk$Press" "open" "LInkOverInk$Layers;") (by decide +kernel)) (fun _ h9 => h9) rfl dX1_openOf_24 ?_
          refine lv_iload hx hb dX1_openOf_27 (lv_at hl 4 rfl) ?_
          refine lv_iload_n hx hb dX1_openOf_29 rfl (lv_at hl 2 rfl) ?_
          refine k_roV (rest := [.int (iI (((x : Nat) : Int)))]) [.int (iI (((d : Nat) : Int))), .int (iI (z))] ⟨hx, hb, hml, hown, hts⟩ (c_X0_bits lM G qo wo 16 d FO z (by omega) (by omega) (by omega)) (cwV 2 hts gX1_openOf_X0_bits rfl rfl rfl (by decide +kernel) ⟨Nat.le_of_ble_eq_true rfl, Nat.le_of_ble_eq_true rfl⟩) hG (va_recv hG.1 hP (ci := 0) (q0 := 1) rfl rfl) (hP.sub (ws' := [(qo, .inr (0, [.int (iI (16)), .ref wo])), (wo, .inl (G.2 0, 16 * 16, .inl (fun iX => iI ((FO iX : Nat) : Int))))]) [1, 2] rfl) rfl rfl hl.1 (Nat.le_of_ble_eq_true rfl) ⟨Nat.zero_le _, Nat.zero_le _⟩ dX1_openOf_30 ?_
          refine k_ior (a := x) (b := lyW FO d z) hx hb dX1_openOf_33 ?_
          refine lv_istore_n (lv' := [(3, .int (iI (((x ||| (lyW FO d z) : Nat) : Int)))), (0, .ref p), (1, .int (iI (((cs : Nat) : Int)))), (2, .int (iI (z))), (4, .int (iI (((d : Nat) : Int))))]) hx hb dX1_openOf_34 rfl hl (by decide) rfl (fun ls hl => ?_)
          refine k_iincN (n := 1) (lv' := [(4, .int (iI (((d + 1 : Nat) : Int)))), (3, .int (iI (((x ||| (lyW FO d z) : Nat) : Int)))), (0, .ref p), (1, .int (iI (((cs : Nat) : Int)))), (2, .int (iI (z)))]) hx hb dX1_openOf_35 hl (k := 4) rfl (by decide) rfl (fun ls hl => ?_)
          refine lv_goto (tgt := 5) hx hb dX1_openOf_38 (by decide) ?_
          exact ih_5 (d + 1) (x ||| (lyW FO d z)) (by omega) (by obtain ⟨d0, rfl⟩ : ∃ d0, d = d0 + 1 := ⟨d - 1, by omega⟩; rw [show d0 + 1 + 1 - 1 = d0 + 1 from rfl, opn]; rw [show d0 + 1 - 1 = d0 from rfl] at hxx; first | (rw [if_pos (by omega), hxx]; done) | (rw [if_neg (by omega), hxx]; done)) (by omega) ls (lv_sub hl [2, 3, 4, 1, 0] rfl)
  exact loop_5 (17 - 1) 1 0 (by omega) rfl (Nat.le_refl _) ls (lv_sub hl [2, 3, 4, 1, 0] rfl)

def rmX1_bareIn : Room := { frames := 3, cells := 0, slots := 0, locals := 68 }
set_option maxRecDepth 20000 in
theorem inX1_X1_bareIn : ∀ w ∈ wsX10, w ∈ wsX1_bareIn := by decide +kernel
set_option maxHeartbeats 4000000 in
set_option maxRecDepth 100000 in
theorem c_X1_bareIn (lM : Launch) (G : GG) (p sa qo qi qs qp qh dn : Nat) (wi wh : Nat) (FI FS : Nat → Nat) (z : Int) (h1 : -500 ≤ z ∧ z ≤ 500) : Met lM yX1_bareIn wsX1_bareIn rmX1_bareIn (ro G [.ref p, .int (iI (z))] [(p, .inr (1, [.ref sa, .ref qo, .ref qi, .ref qs, .ref qp, .ref qh, .int (iI (((dn : Nat) : Int)))])), (qi, .inr (0, [.int (iI (4)), .ref wi])), (wi, .inl (G.2 0, 4 * 16, .inl (fun iX => iI ((FI iX : Nat) : Int)))), (qh, .inr (0, [.int (iI (4)), .ref wh])), (wh, .inl (G.2 0, 4 * 16, .inl (fun iX => iI ((FS iX : Nat) : Int))))]) (roQ (.int (iI (((barW FI FS z : Nat) : Int))))) 0 0 (fun _ => False) := by
  refine ro_of (cc := cX1_bareIn) (maxL := 2) (ret := (some .int)) (by decide) rfl (Nat.le_of_ble_eq_true rfl) ?_
  intro pM eM sM mM bM tM cM hx hb hr hts hown hlocks hml hG hP ls hl
  have hown : sM.vm.findClass RX1 = some mM.cls := hown
  have hl : lv_has ls 2 [(0, .ref p), (1, .int (iI (z)))] := hl
  refine lv_aload_n hx hb dX1_bareIn_0 rfl (lv_at hl 0 rfl) ?_
  refine va_get (D := G.1) (ci := 1) (v := .ref qi) (C := RX1) (T := TX1) (N := 7) hx hb hts inX1_X1_bareIn hown hG.1 hP 0 rfl rfl 2 (by decide) (hts (.fieldLink RX1 24 "InkOverInk$Press" "inked" "LInkOverInk$Layers;") (by decide +kernel)) (fun _ h9 => h9) rfl dX1_bareIn_1 ?_
  refine lv_iconst (v := iI (-1)) hx hb dX1_bareIn_4 rfl ?_
  refine lv_iload_n hx hb dX1_bareIn_5 rfl (lv_at hl 1 rfl) ?_
  refine k_roV (rest := []) [.int (iI ((-1))), .int (iI (z))] ⟨hx, hb, hml, hown, hts⟩ (c_X0_anyBut lM G qi wi 4 FI (-1) z (by omega) (by omega) (by omega)) (cwV 2 hts gX1_bareIn_X0_anyBut rfl rfl rfl (by decide +kernel) ⟨Nat.le_of_ble_eq_true rfl, Nat.le_of_ble_eq_true rfl⟩) hG (va_recv hG.1 hP (ci := 0) (q0 := 1) rfl rfl) (hP.sub (ws' := [(qi, .inr (0, [.int (iI (4)), .ref wi])), (wi, .inl (G.2 0, 4 * 16, .inl (fun iX => iI ((FI iX : Nat) : Int))))]) [1, 2] rfl) rfl rfl hl.1 (Nat.le_of_ble_eq_true rfl) ⟨Nat.zero_le _, Nat.zero_le _⟩ dX1_bareIn_6 ?_
  refine lv_aload_n hx hb dX1_bareIn_9 rfl (lv_at hl 0 rfl) ?_
  refine va_get (D := G.1) (ci := 1) (v := .ref qh) (C := RX1) (T := TX1) (N := 7) hx hb hts inX1_X1_bareIn hown hG.1 hP 0 rfl rfl 5 (by decide) (hts (.fieldLink RX1 33 "InkOverInk$Press" "shown" "LInkOverInk$Layers;") (by decide +kernel)) (fun _ h9 => h9) rfl dX1_bareIn_10 ?_
  refine lv_iconst (v := iI (-1)) hx hb dX1_bareIn_13 rfl ?_
  refine lv_iload_n hx hb dX1_bareIn_14 rfl (lv_at hl 1 rfl) ?_
  refine k_roV (rest := [.int (iI (((lyAny FI (-1) z 4 : Nat) : Int)))]) [.int (iI ((-1))), .int (iI (z))] ⟨hx, hb, hml, hown, hts⟩ (c_X0_anyBut lM G qh wh 4 FS (-1) z (by omega) (by omega) (by omega)) (cwV 2 hts gX1_bareIn_X0_anyBut rfl rfl rfl (by decide +kernel) ⟨Nat.le_of_ble_eq_true rfl, Nat.le_of_ble_eq_true rfl⟩) hG (va_recv hG.1 hP (ci := 0) (q0 := 3) rfl rfl) (hP.sub (ws' := [(qh, .inr (0, [.int (iI (4)), .ref wh])), (wh, .inl (G.2 0, 4 * 16, .inl (fun iX => iI ((FS iX : Nat) : Int))))]) [3, 4] rfl) rfl rfl hl.1 (Nat.le_of_ble_eq_true rfl) ⟨Nat.zero_le _, Nat.zero_le _⟩ dX1_bareIn_15 ?_
  refine lv_iconst (v := iI (-1)) hx hb dX1_bareIn_18 rfl ?_
  refine k_inot (a := lyAny FS (-1) z 4) hx hb dX1_bareIn_19 ?_
  refine k_iand (a := lyAny FI (-1) z 4) (b := (lyAny FS (-1) z 4) ^^^ 4294967295) hx hb dX1_bareIn_20 ?_
  exact ro_iret (a := (((lyAny FI (-1) z 4) &&& ((lyAny FS (-1) z 4) ^^^ 4294967295) : Nat) : Int)) hx hb hr hlocks dX1_bareIn_21 (rfl)

def rmX1_wrongIn : Room := { frames := 2, cells := 0, slots := 0, locals := 44 }
set_option maxRecDepth 20000 in
theorem inX1_X1_wrongIn : ∀ w ∈ wsX10, w ∈ wsX1_wrongIn := by decide +kernel
set_option maxHeartbeats 4000000 in
set_option maxRecDepth 100000 in
theorem c_X1_wrongIn (lM : Launch) (G : GG) (p sa qo qi qs qp qh dn : Nat) (wi wh : Nat) (FI FS : Nat → Nat) (z : Int) (h1 : -500 ≤ z ∧ z ≤ 500) : Met lM yX1_wrongIn wsX1_wrongIn rmX1_wrongIn (ro G [.ref p, .int (iI (z))] [(p, .inr (1, [.ref sa, .ref qo, .ref qi, .ref qs, .ref qp, .ref qh, .int (iI (((dn : Nat) : Int)))])), (qi, .inr (0, [.int (iI (4)), .ref wi])), (wi, .inl (G.2 0, 4 * 16, .inl (fun iX => iI ((FI iX : Nat) : Int)))), (qh, .inr (0, [.int (iI (4)), .ref wh])), (wh, .inl (G.2 0, 4 * 16, .inl (fun iX => iI ((FS iX : Nat) : Int))))]) (roQ (.int (iI (((wrg FI FS z 4 : Nat) : Int))))) 0 0 (fun _ => False) := by
  refine ro_of (cc := cX1_wrongIn) (maxL := 4) (ret := (some .int)) (by decide) rfl (Nat.le_of_ble_eq_true rfl) ?_
  intro pM eM sM mM bM tM cM hx hb hr hts hown hlocks hml hG hP ls hl
  have hown : sM.vm.findClass RX1 = some mM.cls := hown
  have hl : lv_has ls 4 [(0, .ref p), (1, .int (iI (z)))] := hl
  refine lv_iconst (v := iI (0)) hx hb dX1_wrongIn_0 rfl ?_
  refine lv_istore_n (lv' := [(2, .int (iI (0))), (0, .ref p), (1, .int (iI (z)))]) hx hb dX1_wrongIn_1 rfl hl (by decide) rfl (fun ls hl => ?_)
  refine lv_iconst (v := iI (0)) hx hb dX1_wrongIn_2 rfl ?_
  refine lv_istore_n (lv' := [(3, .int (iI (0))), (2, .int (iI (0))), (0, .ref p), (1, .int (iI (z)))]) hx hb dX1_wrongIn_3 rfl hl (by decide) rfl (fun ls hl => ?_)
  have loop_4 : ∀ (n_4 : Nat) (i x : Nat), (i ≤ 4) → (x = wrg FI FS z i) → 5 - i ≤ n_4 → ∀ ls : Array Slot, lv_has ls 4 [(0, .ref p), (1, .int (iI (z))), (2, .int (iI (((x : Nat) : Int)))), (3, .int (iI (((i : Nat) : Int))))] → W pM lM eM rmX1_wrongIn sM mM ([.ref p, .int (iI (z))] : List Value).toArray bM tM cM sM.heap [] 0 0 (MQ bM (roQ (.int (iI (((wrg FI FS z 4 : Nat) : Int))))) ([.ref p, .int (iI (z))] : List Value).toArray sM 0 0 (fun _ => False)) (F0 mM 4 ls []) := by
    intro n_4
    induction n_4 with
    | zero =>
      intro i x hi hxx hm_4 ls hl
      exact absurd hm_4 (by omega)
    | succ n_4 ih_4 =>
      intro i x hi hxx hm_4 ls hl
      refine lv_iload_n hx hb dX1_wrongIn_4 rfl (lv_at hl 3 rfl) ?_
      refine lv_iconst (v := iI (4)) hx hb dX1_wrongIn_5 rfl ?_
      refine k_icmp_ge (a := ((i : Nat) : Int)) (b := 4) (tgt := 37) hx hb (by omega) (by omega) dX1_wrongIn_6 (by decide) (fun c_6 => ?_) (fun c_6 => ?_)
      · refine lv_iload_n hx hb dX1_wrongIn_37 rfl (lv_at hl 2 rfl) ?_
        exact ro_iret (a := ((x : Nat) : Int)) hx hb hr hlocks dX1_wrongIn_38 (by have e9 : i = 4 := (by omega); rw [hxx, e9])
      · refine lv_iload_n hx hb dX1_wrongIn_9 rfl (lv_at hl 2 rfl) ?_
        refine lv_aload_n hx hb dX1_wrongIn_10 rfl (lv_at hl 0 rfl) ?_
        refine va_get (D := G.1) (ci := 1) (v := .ref qi) (C := RX1) (T := TX1) (N := 7) hx hb hts inX1_X1_wrongIn hown hG.1 hP 0 rfl rfl 2 (by decide) (hts (.fieldLink RX1 24 "InkOverInk$Press" "inked" "LInkOverInk$Layers;") (by decide +kernel)) (fun _ h9 => h9) rfl dX1_wrongIn_11 ?_
        refine lv_iload_n hx hb dX1_wrongIn_14 rfl (lv_at hl 3 rfl) ?_
        refine lv_iload_n hx hb dX1_wrongIn_15 rfl (lv_at hl 1 rfl) ?_
        refine k_roV (rest := [.int (iI (((x : Nat) : Int)))]) [.int (iI (((i : Nat) : Int))), .int (iI (z))] ⟨hx, hb, hml, hown, hts⟩ (c_X0_bits lM G qi wi 4 i FI z (by omega) (by omega) (by omega)) (cwV 2 hts gX1_wrongIn_X0_bits rfl rfl rfl (by decide +kernel) ⟨Nat.le_of_ble_eq_true rfl, Nat.le_of_ble_eq_true rfl⟩) hG (va_recv hG.1 hP (ci := 0) (q0 := 1) rfl rfl) (hP.sub (ws' := [(qi, .inr (0, [.int (iI (4)), .ref wi])), (wi, .inl (G.2 0, 4 * 16, .inl (fun iX => iI ((FI iX : Nat) : Int))))]) [1, 2] rfl) rfl rfl hl.1 (Nat.le_of_ble_eq_true rfl) ⟨Nat.zero_le _, Nat.zero_le _⟩ dX1_wrongIn_16 ?_
        refine lv_aload_n hx hb dX1_wrongIn_19 rfl (lv_at hl 0 rfl) ?_
        refine va_get (D := G.1) (ci := 1) (v := .ref qh) (C := RX1) (T := TX1) (N := 7) hx hb hts inX1_X1_wrongIn hown hG.1 hP 0 rfl rfl 5 (by decide) (hts (.fieldLink RX1 33 "InkOverInk$Press" "shown" "LInkOverInk$Layers;") (by decide +kernel)) (fun _ h9 => h9) rfl dX1_wrongIn_20 ?_
        refine lv_iload_n hx hb dX1_wrongIn_23 rfl (lv_at hl 3 rfl) ?_
        refine lv_iload_n hx hb dX1_wrongIn_24 rfl (lv_at hl 1 rfl) ?_
        refine k_roV (rest := [.int (iI (((lyW FI i z : Nat) : Int))), .int (iI (((x : Nat) : Int)))]) [.int (iI (((i : Nat) : Int))), .int (iI (z))] ⟨hx, hb, hml, hown, hts⟩ (c_X0_bits lM G qh wh 4 i FS z (by omega) (by omega) (by omega)) (cwV 2 hts gX1_wrongIn_X0_bits rfl rfl rfl (by decide +kernel) ⟨Nat.le_of_ble_eq_true rfl, Nat.le_of_ble_eq_true rfl⟩) hG (va_recv hG.1 hP (ci := 0) (q0 := 3) rfl rfl) (hP.sub (ws' := [(qh, .inr (0, [.int (iI (4)), .ref wh])), (wh, .inl (G.2 0, 4 * 16, .inl (fun iX => iI ((FS iX : Nat) : Int))))]) [3, 4] rfl) rfl rfl hl.1 (Nat.le_of_ble_eq_true rfl) ⟨Nat.zero_le _, Nat.zero_le _⟩ dX1_wrongIn_25 ?_
        refine k_ixor (a := lyW FI i z) (b := lyW FS i z) hx hb dX1_wrongIn_28 ?_
        refine k_ior (a := x) (b := (lyW FI i z) ^^^ (lyW FS i z)) hx hb dX1_wrongIn_29 ?_
        refine lv_istore_n (lv' := [(2, .int (iI (((x ||| ((lyW FI i z) ^^^ (lyW FS i z)) : Nat) : Int)))), (0, .ref p), (1, .int (iI (z))), (3, .int (iI (((i : Nat) : Int))))]) hx hb dX1_wrongIn_30 rfl hl (by decide) rfl (fun ls hl => ?_)
        refine k_iincN (n := 1) (lv' := [(3, .int (iI (((i + 1 : Nat) : Int)))), (2, .int (iI (((x ||| ((lyW FI i z) ^^^ (lyW FS i z)) : Nat) : Int)))), (0, .ref p), (1, .int (iI (z)))]) hx hb dX1_wrongIn_31 hl (k := 3) rfl (by decide) rfl (fun ls hl => ?_)
        refine lv_goto (tgt := 4) hx hb dX1_wrongIn_34 (by decide) ?_
        exact ih_4 (i + 1) (x ||| ((lyW FI i z) ^^^ (lyW FS i z))) (by omega) (by rw [wrg, hxx]) (by omega) ls (lv_sub hl [2, 3, 1, 0] rfl)
  exact loop_4 (5 - 0) 0 0 (by omega) rfl (Nat.le_refl _) ls (lv_sub hl [2, 3, 1, 0] rfl)

def rmX1_colouredCells : Room := { frames := 3, cells := 0, slots := 0, locals := 68 }
set_option maxRecDepth 20000 in
theorem inX1_X1_colouredCells : ∀ w ∈ wsX10, w ∈ wsX1_colouredCells := by decide +kernel
set_option maxHeartbeats 4000000 in
set_option maxRecDepth 100000 in
theorem c_X1_colouredCells (lM : Launch) (G : GG) (p sa qo qi qs qp qh dn : Nat) (wi : Nat) (FI : Nat → Nat) (h1 : ∀ k, FI k < 65536) : Met lM yX1_colouredCells wsX1_colouredCells rmX1_colouredCells (ro G [.ref p] [(p, .inr (1, [.ref sa, .ref qo, .ref qi, .ref qs, .ref qp, .ref qh, .int (iI (((dn : Nat) : Int)))])), (qi, .inr (0, [.int (iI (4)), .ref wi])), (wi, .inl (G.2 0, 4 * 16, .inl (fun iX => iI ((FI iX : Nat) : Int))))]) (roQ (.int (iI (((sumP (fun r => lyAny FI (-1) (r : Int) 4) 16 : Nat) : Int))))) 0 0 (fun _ => False) := by
  refine ro_of (cc := cX1_colouredCells) (maxL := 3) (ret := (some .int)) (by decide) rfl (Nat.le_of_ble_eq_true rfl) ?_
  intro pM eM sM mM bM tM cM hx hb hr hts hown hlocks hml hG hP ls hl
  have hown : sM.vm.findClass RX1 = some mM.cls := hown
  have hl : lv_has ls 3 [(0, .ref p)] := hl
  refine lv_iconst (v := iI (0)) hx hb dX1_colouredCells_0 rfl ?_
  refine lv_istore_n (lv' := [(1, .int (iI (0))), (0, .ref p)]) hx hb dX1_colouredCells_1 rfl hl (by decide) rfl (fun ls hl => ?_)
  refine lv_iconst (v := iI (0)) hx hb dX1_colouredCells_2 rfl ?_
  refine lv_istore_n (lv' := [(2, .int (iI (0))), (1, .int (iI (0))), (0, .ref p)]) hx hb dX1_colouredCells_3 rfl hl (by decide) rfl (fun ls hl => ?_)
  have loop_4 : ∀ (n_4 : Nat) (i x : Nat), (i ≤ 16) → (x = sumP (fun r => lyAny FI (-1) (r : Int) 4) i) → 17 - i ≤ n_4 → ∀ ls : Array Slot, lv_has ls 3 [(0, .ref p), (1, .int (iI (((x : Nat) : Int)))), (2, .int (iI (((i : Nat) : Int))))] → W pM lM eM rmX1_colouredCells sM mM ([.ref p] : List Value).toArray bM tM cM sM.heap [] 0 0 (MQ bM (roQ (.int (iI (((sumP (fun r => lyAny FI (-1) (r : Int) 4) 16 : Nat) : Int))))) ([.ref p] : List Value).toArray sM 0 0 (fun _ => False)) (F0 mM 4 ls []) := by
    intro n_4
    induction n_4 with
    | zero =>
      intro i x hi hxx hm_4 ls hl
      exact absurd hm_4 (by omega)
    | succ n_4 ih_4 =>
      intro i x hi hxx hm_4 ls hl
      refine lv_iload_n hx hb dX1_colouredCells_4 rfl (lv_at hl 2 rfl) ?_
      refine lv_bipush (v := iI (16)) hx hb dX1_colouredCells_5 (by decide) ?_
      refine k_icmp_ge (a := ((i : Nat) : Int)) (b := 16) (tgt := 31) hx hb (by omega) (by omega) dX1_colouredCells_7 (by decide) (fun c_7 => ?_) (fun c_7 => ?_)
      · refine lv_iload_n hx hb dX1_colouredCells_31 rfl (lv_at hl 1 rfl) ?_
        exact ro_iret (a := ((x : Nat) : Int)) hx hb hr hlocks dX1_colouredCells_32 (by have e9 : i = 16 := (by omega); rw [hxx, e9])
      · refine lv_iload_n hx hb dX1_colouredCells_10 rfl (lv_at hl 1 rfl) ?_
        refine lv_aload_n hx hb dX1_colouredCells_11 rfl (lv_at hl 0 rfl) ?_
        refine va_get (D := G.1) (ci := 1) (v := .ref qi) (C := RX1) (T := TX1) (N := 7) hx hb hts inX1_X1_colouredCells hown hG.1 hP 0 rfl rfl 2 (by decide) (hts (.fieldLink RX1 24 "InkOverInk$Press" "inked" "LInkOverInk$Layers;") (by decide +kernel)) (fun _ h9 => h9) rfl dX1_colouredCells_12 ?_
        refine lv_iconst (v := iI (-1)) hx hb dX1_colouredCells_15 rfl ?_
        refine lv_iload_n hx hb dX1_colouredCells_16 rfl (lv_at hl 2 rfl) ?_
        refine k_roV (rest := [.int (iI (((x : Nat) : Int)))]) [.int (iI ((-1))), .int (iI (((i : Nat) : Int)))] ⟨hx, hb, hml, hown, hts⟩ (c_X0_anyBut lM G qi wi 4 FI (-1) ((i : Nat) : Int) (by omega) (by omega) (by omega)) (cwV 2 hts gX1_colouredCells_X0_anyBut rfl rfl rfl (by decide +kernel) ⟨Nat.le_of_ble_eq_true rfl, Nat.le_of_ble_eq_true rfl⟩) hG (va_recv hG.1 hP (ci := 0) (q0 := 1) rfl rfl) (hP.sub (ws' := [(qi, .inr (0, [.int (iI (4)), .ref wi])), (wi, .inl (G.2 0, 4 * 16, .inl (fun iX => iI ((FI iX : Nat) : Int))))]) [1, 2] rfl) rfl rfl hl.1 (Nat.le_of_ble_eq_true rfl) ⟨Nat.zero_le _, Nat.zero_le _⟩ dX1_colouredCells_17 ?_
        refine k_roS (rest := [.int (iI (((x : Nat) : Int)))]) [.int (iI (((lyAny FI (-1) ((i : Nat) : Int) 4 : Nat) : Int)))] ⟨hx, hb, hml, hown, hts⟩ (c_J6_bitCount_0f7a4 lM G (lyAny FI (-1) ((i : Nat) : Int) 4) (lyAny_lt h1 _ _ _)) (va_cwS 1 hts gX1_colouredCells_J6_bitCount_0f7a4 rfl rfl rfl (by decide +kernel) ⟨Nat.le_of_ble_eq_true rfl, Nat.le_of_ble_eq_true rfl⟩) hG (fun k q h => by simp at h) rfl rfl hl.1 (Nat.le_of_ble_eq_true rfl) ⟨Nat.zero_le _, Nat.zero_le _⟩ dX1_colouredCells_20 ?_
        refine k_iaddN (a := x) (b := (pop (lyAny FI (-1) ((i : Nat) : Int) 4))) hx hb dX1_colouredCells_23 ?_
        refine lv_istore_n (lv' := [(1, .int (iI (((x + (pop (lyAny FI (-1) ((i : Nat) : Int) 4)) : Nat) : Int)))), (0, .ref p), (2, .int (iI (((i : Nat) : Int))))]) hx hb dX1_colouredCells_24 rfl hl (by decide) rfl (fun ls hl => ?_)
        refine k_iincN (n := 1) (lv' := [(2, .int (iI (((i + 1 : Nat) : Int)))), (1, .int (iI (((x + (pop (lyAny FI (-1) ((i : Nat) : Int) 4)) : Nat) : Int)))), (0, .ref p)]) hx hb dX1_colouredCells_25 hl (k := 2) rfl (by decide) rfl (fun ls hl => ?_)
        refine lv_goto (tgt := 4) hx hb dX1_colouredCells_28 (by decide) ?_
        exact ih_4 (i + 1) (x + (pop (lyAny FI (-1) ((i : Nat) : Int) 4))) (by omega) (by rw [sumP, hxx]) (by omega) ls (lv_sub hl [2, 1, 0] rfl)
  exact loop_4 (17 - 0) 0 0 (by omega) rfl (Nat.le_refl _) ls (lv_sub hl [2, 1, 0] rfl)

def rmX1_bareCells : Room := { frames := 4, cells := 0, slots := 0, locals := 89 }
set_option maxHeartbeats 4000000 in
set_option maxRecDepth 100000 in
theorem c_X1_bareCells (lM : Launch) (G : GG) (p sa qo qi qs qp qh dn : Nat) (wi wh : Nat) (FI FS : Nat → Nat) (h1 : ∀ k, FI k < 65536) : Met lM yX1_bareCells wsX1_bareCells rmX1_bareCells (ro G [.ref p] [(p, .inr (1, [.ref sa, .ref qo, .ref qi, .ref qs, .ref qp, .ref qh, .int (iI (((dn : Nat) : Int)))])), (qi, .inr (0, [.int (iI (4)), .ref wi])), (wi, .inl (G.2 0, 4 * 16, .inl (fun iX => iI ((FI iX : Nat) : Int)))), (qh, .inr (0, [.int (iI (4)), .ref wh])), (wh, .inl (G.2 0, 4 * 16, .inl (fun iX => iI ((FS iX : Nat) : Int))))]) (roQ (.int (iI (((sumP (fun r => barW FI FS (r : Int)) 16 : Nat) : Int))))) 0 0 (fun _ => False) := by
  refine ro_of (cc := cX1_bareCells) (maxL := 3) (ret := (some .int)) (by decide) rfl (Nat.le_of_ble_eq_true rfl) ?_
  intro pM eM sM mM bM tM cM hx hb hr hts hown hlocks hml hG hP ls hl
  have hown : sM.vm.findClass RX1 = some mM.cls := hown
  have hl : lv_has ls 3 [(0, .ref p)] := hl
  refine lv_iconst (v := iI (0)) hx hb dX1_bareCells_0 rfl ?_
  refine lv_istore_n (lv' := [(1, .int (iI (0))), (0, .ref p)]) hx hb dX1_bareCells_1 rfl hl (by decide) rfl (fun ls hl => ?_)
  refine lv_iconst (v := iI (0)) hx hb dX1_bareCells_2 rfl ?_
  refine lv_istore_n (lv' := [(2, .int (iI (0))), (1, .int (iI (0))), (0, .ref p)]) hx hb dX1_bareCells_3 rfl hl (by decide) rfl (fun ls hl => ?_)
  have loop_4 : ∀ (n_4 : Nat) (i x : Nat), (i ≤ 16) → (x = sumP (fun r => barW FI FS (r : Int)) i) → 17 - i ≤ n_4 → ∀ ls : Array Slot, lv_has ls 3 [(0, .ref p), (1, .int (iI (((x : Nat) : Int)))), (2, .int (iI (((i : Nat) : Int))))] → W pM lM eM rmX1_bareCells sM mM ([.ref p] : List Value).toArray bM tM cM sM.heap [] 0 0 (MQ bM (roQ (.int (iI (((sumP (fun r => barW FI FS (r : Int)) 16 : Nat) : Int))))) ([.ref p] : List Value).toArray sM 0 0 (fun _ => False)) (F0 mM 4 ls []) := by
    intro n_4
    induction n_4 with
    | zero =>
      intro i x hi hxx hm_4 ls hl
      exact absurd hm_4 (by omega)
    | succ n_4 ih_4 =>
      intro i x hi hxx hm_4 ls hl
      refine lv_iload_n hx hb dX1_bareCells_4 rfl (lv_at hl 2 rfl) ?_
      refine lv_bipush (v := iI (16)) hx hb dX1_bareCells_5 (by decide) ?_
      refine k_icmp_ge (a := ((i : Nat) : Int)) (b := 16) (tgt := 27) hx hb (by omega) (by omega) dX1_bareCells_7 (by decide) (fun c_7 => ?_) (fun c_7 => ?_)
      · refine lv_iload_n hx hb dX1_bareCells_27 rfl (lv_at hl 1 rfl) ?_
        exact ro_iret (a := ((x : Nat) : Int)) hx hb hr hlocks dX1_bareCells_28 (by have e9 : i = 16 := (by omega); rw [hxx, e9])
      · refine lv_iload_n hx hb dX1_bareCells_10 rfl (lv_at hl 1 rfl) ?_
        refine lv_aload_n hx hb dX1_bareCells_11 rfl (lv_at hl 0 rfl) ?_
        refine lv_iload_n hx hb dX1_bareCells_12 rfl (lv_at hl 2 rfl) ?_
        refine k_roV (rest := [.int (iI (((x : Nat) : Int)))]) [.int (iI (((i : Nat) : Int)))] ⟨hx, hb, hml, hown, hts⟩ (c_X1_bareIn lM G p sa qo qi qs qp qh dn wi wh FI FS ((i : Nat) : Int) (by omega)) (cwV 1 hts gX1_bareCells_X1_bareIn rfl rfl rfl (by decide +kernel) ⟨Nat.le_of_ble_eq_true rfl, Nat.le_of_ble_eq_true rfl⟩) hG (va_recv hG.1 hP (ci := 1) (q0 := 0) rfl rfl) (hP.sub (ws' := [(p, .inr (1, [.ref sa, .ref qo, .ref qi, .ref qs, .ref qp, .ref qh, .int (iI (((dn : Nat) : Int)))])), (qi, .inr (0, [.int (iI (4)), .ref wi])), (wi, .inl (G.2 0, 4 * 16, .inl (fun iX => iI ((FI iX : Nat) : Int)))), (qh, .inr (0, [.int (iI (4)), .ref wh])), (wh, .inl (G.2 0, 4 * 16, .inl (fun iX => iI ((FS iX : Nat) : Int))))]) [0, 1, 2, 3, 4] rfl) rfl rfl hl.1 (Nat.le_of_ble_eq_true rfl) ⟨Nat.zero_le _, Nat.zero_le _⟩ dX1_bareCells_13 ?_
        refine k_roS (rest := [.int (iI (((x : Nat) : Int)))]) [.int (iI (((barW FI FS ((i : Nat) : Int) : Nat) : Int)))] ⟨hx, hb, hml, hown, hts⟩ (c_J6_bitCount_0f7a4 lM G (barW FI FS ((i : Nat) : Int)) (and_lt16 (lyAny_lt h1 _ _ _) _)) (va_cwS 1 hts gX1_bareCells_J6_bitCount_0f7a4 rfl rfl rfl (by decide +kernel) ⟨Nat.le_of_ble_eq_true rfl, Nat.le_of_ble_eq_true rfl⟩) hG (fun k q h => by simp at h) rfl rfl hl.1 (Nat.le_of_ble_eq_true rfl) ⟨Nat.zero_le _, Nat.zero_le _⟩ dX1_bareCells_16 ?_
        refine k_iaddN (a := x) (b := (pop (barW FI FS ((i : Nat) : Int)))) hx hb dX1_bareCells_19 ?_
        refine lv_istore_n (lv' := [(1, .int (iI (((x + (pop (barW FI FS ((i : Nat) : Int))) : Nat) : Int)))), (0, .ref p), (2, .int (iI (((i : Nat) : Int))))]) hx hb dX1_bareCells_20 rfl hl (by decide) rfl (fun ls hl => ?_)
        refine k_iincN (n := 1) (lv' := [(2, .int (iI (((i + 1 : Nat) : Int)))), (1, .int (iI (((x + (pop (barW FI FS ((i : Nat) : Int))) : Nat) : Int)))), (0, .ref p)]) hx hb dX1_bareCells_21 hl (k := 2) rfl (by decide) rfl (fun ls hl => ?_)
        refine lv_goto (tgt := 4) hx hb dX1_bareCells_24 (by decide) ?_
        exact ih_4 (i + 1) (x + (pop (barW FI FS ((i : Nat) : Int)))) (by omega) (by rw [sumP, hxx]) (by omega) ls (lv_sub hl [2, 1, 0] rfl)
  exact loop_4 (17 - 0) 0 0 (by omega) rfl (Nat.le_refl _) ls (lv_sub hl [2, 1, 0] rfl)

def rmX1_wrongCells : Room := { frames := 3, cells := 0, slots := 0, locals := 67 }
set_option maxHeartbeats 4000000 in
set_option maxRecDepth 100000 in
theorem c_X1_wrongCells (lM : Launch) (G : GG) (p sa qo qi qs qp qh dn : Nat) (wi wh : Nat) (FI FS : Nat → Nat) (h1 : ∀ k, FI k < 65536) (h2 : ∀ k, FS k < 65536) : Met lM yX1_wrongCells wsX1_wrongCells rmX1_wrongCells (ro G [.ref p] [(p, .inr (1, [.ref sa, .ref qo, .ref qi, .ref qs, .ref qp, .ref qh, .int (iI (((dn : Nat) : Int)))])), (qi, .inr (0, [.int (iI (4)), .ref wi])), (wi, .inl (G.2 0, 4 * 16, .inl (fun iX => iI ((FI iX : Nat) : Int)))), (qh, .inr (0, [.int (iI (4)), .ref wh])), (wh, .inl (G.2 0, 4 * 16, .inl (fun iX => iI ((FS iX : Nat) : Int))))]) (roQ (.int (iI (((sumP (fun r => wrg FI FS (r : Int) 4) 16 : Nat) : Int))))) 0 0 (fun _ => False) := by
  refine ro_of (cc := cX1_wrongCells) (maxL := 3) (ret := (some .int)) (by decide) rfl (Nat.le_of_ble_eq_true rfl) ?_
  intro pM eM sM mM bM tM cM hx hb hr hts hown hlocks hml hG hP ls hl
  have hown : sM.vm.findClass RX1 = some mM.cls := hown
  have hl : lv_has ls 3 [(0, .ref p)] := hl
  refine lv_iconst (v := iI (0)) hx hb dX1_wrongCells_0 rfl ?_
  refine lv_istore_n (lv' := [(1, .int (iI (0))), (0, .ref p)]) hx hb dX1_wrongCells_1 rfl hl (by decide) rfl (fun ls hl => ?_)
  refine lv_iconst (v := iI (0)) hx hb dX1_wrongCells_2 rfl ?_
  refine lv_istore_n (lv' := [(2, .int (iI (0))), (1, .int (iI (0))), (0, .ref p)]) hx hb dX1_wrongCells_3 rfl hl (by decide) rfl (fun ls hl => ?_)
  have loop_4 : ∀ (n_4 : Nat) (i x : Nat), (i ≤ 16) → (x = sumP (fun r => wrg FI FS (r : Int) 4) i) → 17 - i ≤ n_4 → ∀ ls : Array Slot, lv_has ls 3 [(0, .ref p), (1, .int (iI (((x : Nat) : Int)))), (2, .int (iI (((i : Nat) : Int))))] → W pM lM eM rmX1_wrongCells sM mM ([.ref p] : List Value).toArray bM tM cM sM.heap [] 0 0 (MQ bM (roQ (.int (iI (((sumP (fun r => wrg FI FS (r : Int) 4) 16 : Nat) : Int))))) ([.ref p] : List Value).toArray sM 0 0 (fun _ => False)) (F0 mM 4 ls []) := by
    intro n_4
    induction n_4 with
    | zero =>
      intro i x hi hxx hm_4 ls hl
      exact absurd hm_4 (by omega)
    | succ n_4 ih_4 =>
      intro i x hi hxx hm_4 ls hl
      refine lv_iload_n hx hb dX1_wrongCells_4 rfl (lv_at hl 2 rfl) ?_
      refine lv_bipush (v := iI (16)) hx hb dX1_wrongCells_5 (by decide) ?_
      refine k_icmp_ge (a := ((i : Nat) : Int)) (b := 16) (tgt := 27) hx hb (by omega) (by omega) dX1_wrongCells_7 (by decide) (fun c_7 => ?_) (fun c_7 => ?_)
      · refine lv_iload_n hx hb dX1_wrongCells_27 rfl (lv_at hl 1 rfl) ?_
        exact ro_iret (a := ((x : Nat) : Int)) hx hb hr hlocks dX1_wrongCells_28 (by have e9 : i = 16 := (by omega); rw [hxx, e9])
      · refine lv_iload_n hx hb dX1_wrongCells_10 rfl (lv_at hl 1 rfl) ?_
        refine lv_aload_n hx hb dX1_wrongCells_11 rfl (lv_at hl 0 rfl) ?_
        refine lv_iload_n hx hb dX1_wrongCells_12 rfl (lv_at hl 2 rfl) ?_
        refine k_roV (rest := [.int (iI (((x : Nat) : Int)))]) [.int (iI (((i : Nat) : Int)))] ⟨hx, hb, hml, hown, hts⟩ (c_X1_wrongIn lM G p sa qo qi qs qp qh dn wi wh FI FS ((i : Nat) : Int) (by omega)) (cwV 1 hts gX1_wrongCells_X1_wrongIn rfl rfl rfl (by decide +kernel) ⟨Nat.le_of_ble_eq_true rfl, Nat.le_of_ble_eq_true rfl⟩) hG (va_recv hG.1 hP (ci := 1) (q0 := 0) rfl rfl) (hP.sub (ws' := [(p, .inr (1, [.ref sa, .ref qo, .ref qi, .ref qs, .ref qp, .ref qh, .int (iI (((dn : Nat) : Int)))])), (qi, .inr (0, [.int (iI (4)), .ref wi])), (wi, .inl (G.2 0, 4 * 16, .inl (fun iX => iI ((FI iX : Nat) : Int)))), (qh, .inr (0, [.int (iI (4)), .ref wh])), (wh, .inl (G.2 0, 4 * 16, .inl (fun iX => iI ((FS iX : Nat) : Int))))]) [0, 1, 2, 3, 4] rfl) rfl rfl hl.1 (Nat.le_of_ble_eq_true rfl) ⟨Nat.zero_le _, Nat.zero_le _⟩ dX1_wrongCells_13 ?_
        refine k_roS (rest := [.int (iI (((x : Nat) : Int)))]) [.int (iI (((wrg FI FS ((i : Nat) : Int) 4 : Nat) : Int)))] ⟨hx, hb, hml, hown, hts⟩ (c_J6_bitCount_0f7a4 lM G (wrg FI FS ((i : Nat) : Int) 4) (wrg_lt h1 h2 _ _)) (va_cwS 1 hts gX1_wrongCells_J6_bitCount_0f7a4 rfl rfl rfl (by decide +kernel) ⟨Nat.le_of_ble_eq_true rfl, Nat.le_of_ble_eq_true rfl⟩) hG (fun k q h => by simp at h) rfl rfl hl.1 (Nat.le_of_ble_eq_true rfl) ⟨Nat.zero_le _, Nat.zero_le _⟩ dX1_wrongCells_16 ?_
        refine k_iaddN (a := x) (b := (pop (wrg FI FS ((i : Nat) : Int) 4))) hx hb dX1_wrongCells_19 ?_
        refine lv_istore_n (lv' := [(1, .int (iI (((x + (pop (wrg FI FS ((i : Nat) : Int) 4)) : Nat) : Int)))), (0, .ref p), (2, .int (iI (((i : Nat) : Int))))]) hx hb dX1_wrongCells_20 rfl hl (by decide) rfl (fun ls hl => ?_)
        refine k_iincN (n := 1) (lv' := [(2, .int (iI (((i + 1 : Nat) : Int)))), (1, .int (iI (((x + (pop (wrg FI FS ((i : Nat) : Int) 4)) : Nat) : Int)))), (0, .ref p)]) hx hb dX1_wrongCells_21 hl (k := 2) rfl (by decide) rfl (fun ls hl => ?_)
        refine lv_goto (tgt := 4) hx hb dX1_wrongCells_24 (by decide) ?_
        exact ih_4 (i + 1) (x + (pop (wrg FI FS ((i : Nat) : Int) 4))) (by omega) (by rw [sumP, hxx]) (by omega) ls (lv_sub hl [2, 1, 0] rfl)
  exact loop_4 (17 - 0) 0 0 (by omega) rfl (Nat.le_refl _) ls (lv_sub hl [2, 1, 0] rfl)

def rmX1_crowdedCells : Room := { frames := 4, cells := 0, slots := 0, locals := 91 }
set_option maxRecDepth 20000 in
theorem inX1_X1_crowdedCells : ∀ w ∈ wsX10, w ∈ wsX1_crowdedCells := by decide +kernel
set_option maxHeartbeats 4000000 in
set_option maxRecDepth 100000 in
theorem c_X1_crowdedCells (lM : Launch) (G : GG) (p sa qo qi qs qp qh dn : Nat) (wh : Nat) (FS : Nat → Nat) (h1 : ∀ k, FS k < 65536) : Met lM yX1_crowdedCells wsX1_crowdedCells rmX1_crowdedCells (ro G [.ref p] [(p, .inr (1, [.ref sa, .ref qo, .ref qi, .ref qs, .ref qp, .ref qh, .int (iI (((dn : Nat) : Int)))])), (qh, .inr (0, [.int (iI (4)), .ref wh])), (wh, .inl (G.2 0, 4 * 16, .inl (fun iX => iI ((FS iX : Nat) : Int))))]) (roQ (.int (iI (((crw FS 16 : Nat) : Int))))) 0 0 (fun _ => False) := by
  refine ro_of (cc := cX1_crowdedCells) (maxL := 4) (ret := (some .int)) (by decide) rfl (Nat.le_of_ble_eq_true rfl) ?_
  intro pM eM sM mM bM tM cM hx hb hr hts hown hlocks hml hG hP ls hl
  have hown : sM.vm.findClass RX1 = some mM.cls := hown
  have hl : lv_has ls 4 [(0, .ref p)] := hl
  refine lv_iconst (v := iI (0)) hx hb dX1_crowdedCells_0 rfl ?_
  refine lv_istore_n (lv' := [(1, .int (iI (0))), (0, .ref p)]) hx hb dX1_crowdedCells_1 rfl hl (by decide) rfl (fun ls hl => ?_)
  refine lv_iconst (v := iI (0)) hx hb dX1_crowdedCells_2 rfl ?_
  refine lv_istore_n (lv' := [(2, .int (iI (0))), (1, .int (iI (0))), (0, .ref p)]) hx hb dX1_crowdedCells_3 rfl hl (by decide) rfl (fun ls hl => ?_)
  have loop_4 : ∀ (n_4 : Nat) (i x : Nat), (i ≤ 16) → (x = crw FS i) → 17 - i ≤ n_4 → ∀ ls : Array Slot, lv_has ls 4 [(0, .ref p), (1, .int (iI (((x : Nat) : Int)))), (2, .int (iI (((i : Nat) : Int))))] → W pM lM eM rmX1_crowdedCells sM mM ([.ref p] : List Value).toArray bM tM cM sM.heap [] 0 0 (MQ bM (roQ (.int (iI (((crw FS 16 : Nat) : Int))))) ([.ref p] : List Value).toArray sM 0 0 (fun _ => False)) (F0 mM 4 ls []) := by
    intro n_4
    induction n_4 with
    | zero =>
      intro i x hi hxx hm_4 ls hl
      exact absurd hm_4 (by omega)
    | succ n_4 ih_4 =>
      intro i x hi hxx hm_4 ls hl
      refine lv_iload_n hx hb dX1_crowdedCells_4 rfl (lv_at hl 2 rfl) ?_
      refine lv_bipush (v := iI (16)) hx hb dX1_crowdedCells_5 (by decide) ?_
      refine k_icmp_ge (a := ((i : Nat) : Int)) (b := 16) (tgt := 49) hx hb (by omega) (by omega) dX1_crowdedCells_7 (by decide) (fun c_7 => ?_) (fun c_7 => ?_)
      · refine lv_iload_n hx hb dX1_crowdedCells_49 rfl (lv_at hl 1 rfl) ?_
        exact ro_iret (a := ((x : Nat) : Int)) hx hb hr hlocks dX1_crowdedCells_50 (by have e9 : i = 16 := (by omega); rw [hxx, e9])
      · refine lv_iconst (v := iI (0)) hx hb dX1_crowdedCells_10 rfl ?_
        refine lv_istore_n (lv' := [(3, .int (iI (0))), (0, .ref p), (1, .int (iI (((x : Nat) : Int)))), (2, .int (iI (((i : Nat) : Int))))]) hx hb dX1_crowdedCells_11 rfl hl (by decide) rfl (fun ls hl => ?_)
        have loop_12 : ∀ (n_12 : Nat) (j y : Nat), (j ≤ 16) → (y = x + crwC FS i j) → 17 - j ≤ n_12 → ∀ ls : Array Slot, lv_has ls 4 [(0, .ref p), (1, .int (iI (((y : Nat) : Int)))), (2, .int (iI (((i : Nat) : Int)))), (3, .int (iI (((j : Nat) : Int))))] → W pM lM eM rmX1_crowdedCells sM mM ([.ref p] : List Value).toArray bM tM cM sM.heap [] 0 0 (MQ bM (roQ (.int (iI (((crw FS 16 : Nat) : Int))))) ([.ref p] : List Value).toArray sM 0 0 (fun _ => False)) (F0 mM 12 ls []) := by
          intro n_12
          induction n_12 with
          | zero =>
            intro j y hj hyy hm_12 ls hl
            exact absurd hm_12 (by omega)
          | succ n_12 ih_12 =>
            intro j y hj hyy hm_12 ls hl
            refine lv_iload_n hx hb dX1_crowdedCells_12 rfl (lv_at hl 3 rfl) ?_
            refine lv_bipush (v := iI (16)) hx hb dX1_crowdedCells_13 (by decide) ?_
            refine k_icmp_ge (a := ((j : Nat) : Int)) (b := 16) (tgt := 43) hx hb (by omega) (by omega) dX1_crowdedCells_15 (by decide) (fun c_15 => ?_) (fun c_15 => ?_)
            · refine k_iincN (n := 1) (lv' := [(2, .int (iI (((i + 1 : Nat) : Int)))), (0, .ref p), (1, .int (iI (((y : Nat) : Int)))), (3, .int (iI (((j : Nat) : Int))))]) hx hb dX1_crowdedCells_43 hl (k := 2) rfl (by decide) rfl (fun ls hl => ?_)
              refine lv_goto (tgt := 4) hx hb dX1_crowdedCells_46 (by decide) ?_
              exact ih_4 (i + 1) y (by omega) (by rw [crw, hyy, show j = 16 by omega, hxx]) (by omega) ls (lv_sub hl [1, 2, 0] rfl)
            · refine lv_aload_n hx hb dX1_crowdedCells_18 rfl (lv_at hl 0 rfl) ?_
              refine va_get (D := G.1) (ci := 1) (v := .ref qh) (C := RX1) (T := TX1) (N := 7) hx hb hts inX1_X1_crowdedCells hown hG.1 hP 0 rfl rfl 5 (by decide) (hts (.fieldLink RX1 33 "InkOverInk$Press" "shown" "LInkOverInk$Layers;") (by decide +kernel)) (fun _ h9 => h9) rfl dX1_crowdedCells_19 ?_
              refine lv_iload_n hx hb dX1_crowdedCells_22 rfl (lv_at hl 2 rfl) ?_
              refine lv_iload_n hx hb dX1_crowdedCells_23 rfl (lv_at hl 3 rfl) ?_
              refine k_roV (rest := []) [.int (iI (((i : Nat) : Int))), .int (iI (((j : Nat) : Int)))] ⟨hx, hb, hml, hown, hts⟩ (c_X0_through lM G qh wh 4 FS ((i : Nat) : Int) ((j : Nat) : Int) (by omega) (by omega) (by omega) h1) (cwV 2 hts gX1_crowdedCells_X0_through rfl rfl rfl (by decide +kernel) ⟨Nat.le_of_ble_eq_true rfl, Nat.le_of_ble_eq_true rfl⟩) hG (va_recv hG.1 hP (ci := 0) (q0 := 1) rfl rfl) (hP.sub (ws' := [(qh, .inr (0, [.int (iI (4)), .ref wh])), (wh, .inl (G.2 0, 4 * 16, .inl (fun iX => iI ((FS iX : Nat) : Int))))]) [1, 2] rfl) rfl rfl hl.1 (Nat.le_of_ble_eq_true rfl) ⟨Nat.zero_le _, Nat.zero_le _⟩ dX1_crowdedCells_24 ?_
              refine k_roS (rest := []) [.int (iI (((lyThru FS ((i : Nat) : Int) ((j : Nat) : Int) 4 : Nat) : Int)))] ⟨hx, hb, hml, hown, hts⟩ (c_J6_bitCount_0f7a4 lM G (lyThru FS ((i : Nat) : Int) ((j : Nat) : Int) 4) (lyThru_lt FS _ _ 4 (by omega))) (va_cwS 1 hts gX1_crowdedCells_J6_bitCount_0f7a4 rfl rfl rfl (by decide +kernel) ⟨Nat.le_of_ble_eq_true rfl, Nat.le_of_ble_eq_true rfl⟩) hG (fun k q h => by simp at h) rfl rfl hl.1 (Nat.le_of_ble_eq_true rfl) ⟨Nat.zero_le _, Nat.zero_le _⟩ dX1_crowdedCells_27 ?_
              refine lv_iconst (v := iI (2)) hx hb dX1_crowdedCells_30 rfl ?_
              refine k_icmp_le (a := ((pop (lyThru FS ((i : Nat) : Int) ((j : Nat) : Int) 4) : Nat) : Int)) (b := 2) (tgt := 37) hx hb (by have := pop_le (lyThru FS (i : Int) (j : Int) 4); omega) (by omega) dX1_crowdedCells_31 (by decide) (fun c_31 => ?_) (fun c_31 => ?_)
              · refine k_iincN (n := 1) (lv' := [(3, .int (iI (((j + 1 : Nat) : Int)))), (0, .ref p), (1, .int (iI (((y : Nat) : Int)))), (2, .int (iI (((i : Nat) : Int))))]) hx hb dX1_crowdedCells_37 hl (k := 3) rfl (by decide) rfl (fun ls hl => ?_)
                refine lv_goto (tgt := 12) hx hb dX1_crowdedCells_40 (by decide) ?_
                exact ih_12 (j + 1) y (by omega) (by first | (rw [crwC, if_neg (by omega), hyy]; rfl) | (rw [crwC, if_pos (by omega), hyy]; rfl)) (by omega) ls (lv_sub hl [1, 2, 3, 0] rfl)
              · refine k_iincN (n := 1) (lv' := [(1, .int (iI (((y + 1 : Nat) : Int)))), (0, .ref p), (2, .int (iI (((i : Nat) : Int)))), (3, .int (iI (((j : Nat) : Int))))]) hx hb dX1_crowdedCells_34 hl (k := 1) rfl (by decide) rfl (fun ls hl => ?_)
                refine k_iincN (n := 1) (lv' := [(3, .int (iI (((j + 1 : Nat) : Int)))), (1, .int (iI (((y + 1 : Nat) : Int)))), (0, .ref p), (2, .int (iI (((i : Nat) : Int))))]) hx hb dX1_crowdedCells_37 hl (k := 3) rfl (by decide) rfl (fun ls hl => ?_)
                refine lv_goto (tgt := 12) hx hb dX1_crowdedCells_40 (by decide) ?_
                exact ih_12 (j + 1) (y + 1) (by omega) (by first | (rw [crwC, if_neg (by omega), hyy]; rfl) | (rw [crwC, if_pos (by omega), hyy]; rfl)) (by omega) ls (lv_sub hl [2, 1, 3, 0] rfl)
        exact loop_12 (17 - 0) 0 x (by omega) rfl (Nat.le_refl _) ls (lv_sub hl [1, 2, 3, 0] rfl)
  exact loop_4 (17 - 0) 0 0 (by omega) rfl (Nat.le_refl _) ls (lv_sub hl [2, 1, 0] rfl)

def rmX1_bareCellsIf : Room := { frames := 3, cells := 0, slots := 0, locals := 68 }
set_option maxRecDepth 20000 in
theorem inX1_X1_bareCellsIf : ∀ w ∈ wsX10, w ∈ wsX1_bareCellsIf := by decide +kernel
set_option maxHeartbeats 4000000 in
set_option maxRecDepth 100000 in
theorem c_X1_bareCellsIf (lM : Launch) (G : GG) (p sa qo qi qs qp qh dn : Nat) (wi wp : Nat) (FI FP : Nat → Nat) (a : Nat) (dw ac : Int) (h1 : a < 4) (h2 : -6 ≤ dw ∧ dw ≤ 6) (h3 : -6 ≤ ac ∧ ac ≤ 6) (h4 : ∀ k, FI k < 65536) (h5 : ∀ k, FP k < 65536) : Met lM yX1_bareCellsIf wsX1_bareCellsIf rmX1_bareCellsIf (ro G [.ref p, .int (iI (((a : Nat) : Int))), .int (iI (dw)), .int (iI (ac))] [(p, .inr (1, [.ref sa, .ref qo, .ref qi, .ref qs, .ref qp, .ref qh, .int (iI (((dn : Nat) : Int)))])), (qi, .inr (0, [.int (iI (4)), .ref wi])), (wi, .inl (G.2 0, 4 * 16, .inl (fun iX => iI ((FI iX : Nat) : Int)))), (qp, .inr (0, [.int (iI (4)), .ref wp])), (wp, .inl (G.2 0, 4 * 16, .inl (fun iX => iI ((FP iX : Nat) : Int))))]) (roQ (.int (iI (((sumP (bifW FI FP a dw ac) 16 : Nat) : Int))))) 0 0 (fun _ => False) := by
  refine ro_of (cc := cX1_bareCellsIf) (maxL := 8) (ret := (some .int)) (by decide) rfl (Nat.le_of_ble_eq_true rfl) ?_
  intro pM eM sM mM bM tM cM hx hb hr hts hown hlocks hml hG hP ls hl
  have hown : sM.vm.findClass RX1 = some mM.cls := hown
  have hl : lv_has ls 8 [(0, .ref p), (1, .int (iI (((a : Nat) : Int)))), (2, .int (iI (dw))), (3, .int (iI (ac)))] := hl
  refine lv_iconst (v := iI (0)) hx hb dX1_bareCellsIf_0 rfl ?_
  refine lv_istore (lv' := [(4, .int (iI (0))), (0, .ref p), (1, .int (iI (((a : Nat) : Int)))), (2, .int (iI (dw))), (3, .int (iI (ac)))]) hx hb dX1_bareCellsIf_1 hl (by decide) rfl (fun ls hl => ?_)
  refine lv_iconst (v := iI (0)) hx hb dX1_bareCellsIf_3 rfl ?_
  refine lv_istore (lv' := [(5, .int (iI (0))), (4, .int (iI (0))), (0, .ref p), (1, .int (iI (((a : Nat) : Int)))), (2, .int (iI (dw))), (3, .int (iI (ac)))]) hx hb dX1_bareCellsIf_4 hl (by decide) rfl (fun ls hl => ?_)
  have loop_6 : ∀ (n_6 : Nat) (i x : Nat), (i ≤ 16) → (x = sumP (bifW FI FP a dw ac) i) → 17 - i ≤ n_6 → ∀ ls : Array Slot, lv_has ls 8 [(0, .ref p), (1, .int (iI (((a : Nat) : Int)))), (2, .int (iI (dw))), (3, .int (iI (ac))), (4, .int (iI (((x : Nat) : Int)))), (5, .int (iI (((i : Nat) : Int))))] → W pM lM eM rmX1_bareCellsIf sM mM ([.ref p, .int (iI (((a : Nat) : Int))), .int (iI (dw)), .int (iI (ac))] : List Value).toArray bM tM cM sM.heap [] 0 0 (MQ bM (roQ (.int (iI (((sumP (bifW FI FP a dw ac) 16 : Nat) : Int))))) ([.ref p, .int (iI (((a : Nat) : Int))), .int (iI (dw)), .int (iI (ac))] : List Value).toArray sM 0 0 (fun _ => False)) (F0 mM 6 ls []) := by
    intro n_6
    induction n_6 with
    | zero =>
      intro i x hi hxx hm_6 ls hl
      exact absurd hm_6 (by omega)
    | succ n_6 ih_6 =>
      intro i x hi hxx hm_6 ls hl
      refine lv_iload hx hb dX1_bareCellsIf_6 (lv_at hl 5 rfl) ?_
      refine lv_bipush (v := iI (16)) hx hb dX1_bareCellsIf_8 (by decide) ?_
      refine k_icmp_ge (a := ((i : Nat) : Int)) (b := 16) (tgt := 87) hx hb (by omega) (by omega) dX1_bareCellsIf_10 (by decide) (fun c_10 => ?_) (fun c_10 => ?_)
      · refine lv_iload hx hb dX1_bareCellsIf_87 (lv_at hl 4 rfl) ?_
        exact ro_iret (a := ((x : Nat) : Int)) hx hb hr hlocks dX1_bareCellsIf_89 (by have e9 : i = 16 := (by omega); rw [hxx, e9])
      · refine lv_aload_n hx hb dX1_bareCellsIf_13 rfl (lv_at hl 0 rfl) ?_
        refine va_get (D := G.1) (ci := 1) (v := .ref qp) (C := RX1) (T := TX1) (N := 7) hx hb hts inX1_X1_bareCellsIf hown hG.1 hP 0 rfl rfl 4 (by decide) (hts (.fieldLink RX1 30 "InkOverInk$Press" "plates" "LInkOverInk$Layers;") (by decide +kernel)) (fun _ h9 => h9) rfl dX1_bareCellsIf_14 ?_
        refine lv_iload_n hx hb dX1_bareCellsIf_17 rfl (lv_at hl 1 rfl) ?_
        refine lv_iload hx hb dX1_bareCellsIf_18 (lv_at hl 5 rfl) ?_
        refine lv_iload_n hx hb dX1_bareCellsIf_20 rfl (lv_at hl 2 rfl) ?_
        refine k_isub (a := ((i : Nat) : Int)) (b := dw) hx hb dX1_bareCellsIf_21 ?_
        refine k_roV (rest := []) [.int (iI (((a : Nat) : Int))), .int (iI (((i : Nat) : Int) - dw))] ⟨hx, hb, hml, hown, hts⟩ (c_X0_bits lM G qp wp 4 a FP (((i : Nat) : Int) - dw) (by omega) (by omega) (by omega)) (cwV 2 hts gX1_bareCellsIf_X0_bits rfl rfl rfl (by decide +kernel) ⟨Nat.le_of_ble_eq_true rfl, Nat.le_of_ble_eq_true rfl⟩) hG (va_recv hG.1 hP (ci := 0) (q0 := 3) rfl rfl) (hP.sub (ws' := [(qp, .inr (0, [.int (iI (4)), .ref wp])), (wp, .inl (G.2 0, 4 * 16, .inl (fun iX => iI ((FP iX : Nat) : Int))))]) [3, 4] rfl) rfl rfl hl.1 (Nat.le_of_ble_eq_true rfl) ⟨Nat.zero_le _, Nat.zero_le _⟩ dX1_bareCellsIf_22 ?_
        refine lv_istore (lv' := [(6, .int (iI (((lyW FP a (((i : Nat) : Int) - dw) : Nat) : Int)))), (0, .ref p), (1, .int (iI (((a : Nat) : Int)))), (2, .int (iI (dw))), (3, .int (iI (ac))), (4, .int (iI (((x : Nat) : Int)))), (5, .int (iI (((i : Nat) : Int))))]) hx hb dX1_bareCellsIf_25 hl (by decide) rfl (fun ls hl => ?_)
        refine lv_iload_n hx hb dX1_bareCellsIf_27 rfl (lv_at hl 4 rfl) ?_
        refine k_if_lt (a := ac) (tgt := 38) hx hb (by omega) dX1_bareCellsIf_28 (by decide) (fun c_28 => ?_) (fun c_28 => ?_)
        · obtain ⟨k, rfl⟩ : ∃ k : Nat, ac = -(k : Int) := ⟨(-ac).toNat, by omega⟩
          refine lv_iload hx hb dX1_bareCellsIf_38 (lv_at hl 0 rfl) ?_
          refine lv_iload_n hx hb dX1_bareCellsIf_40 rfl (lv_at hl 4 rfl) ?_
          refine k_ineg (a := -(k : Int)) hx hb dX1_bareCellsIf_41 ?_
          rw [Int.neg_neg]
          refine k_iushr (a := lyW FP a (((i : Nat) : Int) - dw)) (b := k) hx hb (by have := lyW_lt h5 a ((i : Int) - dw); omega) (by omega) dX1_bareCellsIf_42 ?_
          refine lv_istore (lv' := [(7, .int (iI ((((lyW FP a (((i : Nat) : Int) - dw)) >>> k : Nat) : Int)))), (6, .int (iI (((lyW FP a (((i : Nat) : Int) - dw) : Nat) : Int)))), (0, .ref p), (1, .int (iI (((a : Nat) : Int)))), (2, .int (iI (dw))), (3, .int (iI (-(k : Int)))), (4, .int (iI (((x : Nat) : Int)))), (5, .int (iI (((i : Nat) : Int))))]) hx hb dX1_bareCellsIf_43 hl (by decide) rfl (fun ls hl => ?_)
          refine lv_iload hx hb dX1_bareCellsIf_45 (lv_at hl 6 rfl) ?_
          refine lv_aload_n hx hb dX1_bareCellsIf_47 rfl (lv_at hl 2 rfl) ?_
          refine va_get (D := G.1) (ci := 1) (v := .ref qi) (C := RX1) (T := TX1) (N := 7) hx hb hts inX1_X1_bareCellsIf hown hG.1 hP 0 rfl rfl 2 (by decide) (hts (.fieldLink RX1 24 "InkOverInk$Press" "inked" "LInkOverInk$Layers;") (by decide +kernel)) (fun _ h9 => h9) rfl dX1_bareCellsIf_48 ?_
          refine lv_iconst (v := iI (-1)) hx hb dX1_bareCellsIf_51 rfl ?_
          refine lv_iload hx hb dX1_bareCellsIf_52 (lv_at hl 7 rfl) ?_
          refine k_roV (rest := [.int (iI (((x : Nat) : Int)))]) [.int (iI ((-1))), .int (iI (((i : Nat) : Int)))] ⟨hx, hb, hml, hown, hts⟩ (c_X0_anyBut lM G qi wi 4 FI (-1) ((i : Nat) : Int) (by omega) (by omega) (by omega)) (cwV 2 hts gX1_bareCellsIf_X0_anyBut rfl rfl rfl (by decide +kernel) ⟨Nat.le_of_ble_eq_true rfl, Nat.le_of_ble_eq_true rfl⟩) hG (va_recv hG.1 hP (ci := 0) (q0 := 1) rfl rfl) (hP.sub (ws' := [(qi, .inr (0, [.int (iI (4)), .ref wi])), (wi, .inl (G.2 0, 4 * 16, .inl (fun iX => iI ((FI iX : Nat) : Int))))]) [1, 2] rfl) rfl rfl hl.1 (Nat.le_of_ble_eq_true rfl) ⟨Nat.zero_le _, Nat.zero_le _⟩ dX1_bareCellsIf_54 ?_
          refine lv_aload_n hx hb dX1_bareCellsIf_57 rfl (lv_at hl 2 rfl) ?_
          refine va_get (D := G.1) (ci := 1) (v := .ref qp) (C := RX1) (T := TX1) (N := 7) hx hb hts inX1_X1_bareCellsIf hown hG.1 hP 0 rfl rfl 4 (by decide) (hts (.fieldLink RX1 30 "InkOverInk$Press" "plates" "LInkOverInk$Layers;") (by decide +kernel)) (fun _ h9 => h9) rfl dX1_bareCellsIf_58 ?_
          refine lv_iload_n hx hb dX1_bareCellsIf_61 rfl (lv_at hl 3 rfl) ?_
          refine lv_iload hx hb dX1_bareCellsIf_62 (lv_at hl 7 rfl) ?_
          refine k_roV (rest := [.int (iI (((lyAny FI (-1) ((i : Nat) : Int) 4 : Nat) : Int))), .int (iI (((x : Nat) : Int)))]) [.int (iI (((a : Nat) : Int))), .int (iI (((i : Nat) : Int)))] ⟨hx, hb, hml, hown, hts⟩ (c_X0_anyBut lM G qp wp 4 FP ((a : Nat) : Int) ((i : Nat) : Int) (by omega) (by omega) (by omega)) (cwV 2 hts gX1_bareCellsIf_X0_anyBut rfl rfl rfl (by decide +kernel) ⟨Nat.le_of_ble_eq_true rfl, Nat.le_of_ble_eq_true rfl⟩) hG (va_recv hG.1 hP (ci := 0) (q0 := 3) rfl rfl) (hP.sub (ws' := [(qp, .inr (0, [.int (iI (4)), .ref wp])), (wp, .inl (G.2 0, 4 * 16, .inl (fun iX => iI ((FP iX : Nat) : Int))))]) [3, 4] rfl) rfl rfl hl.1 (Nat.le_of_ble_eq_true rfl) ⟨Nat.zero_le _, Nat.zero_le _⟩ dX1_bareCellsIf_64 ?_
          refine lv_iconst (v := iI (-1)) hx hb dX1_bareCellsIf_67 rfl ?_
          refine k_inot (a := lyAny FP ((a : Nat) : Int) ((i : Nat) : Int) 4) hx hb dX1_bareCellsIf_68 ?_
          refine k_iand (a := lyAny FI (-1) ((i : Nat) : Int) 4) (b := (lyAny FP ((a : Nat) : Int) ((i : Nat) : Int) 4) ^^^ 4294967295) hx hb dX1_bareCellsIf_69 ?_
          refine lv_iload hx hb dX1_bareCellsIf_70 (lv_at hl 0 rfl) ?_
          refine lv_iconst (v := iI (-1)) hx hb dX1_bareCellsIf_72 rfl ?_
          refine k_inot (a := (lyW FP a (((i : Nat) : Int) - dw)) >>> k) hx hb dX1_bareCellsIf_73 ?_
          refine k_iand (a := (lyAny FI (-1) ((i : Nat) : Int) 4) &&& ((lyAny FP ((a : Nat) : Int) ((i : Nat) : Int) 4) ^^^ 4294967295)) (b := ((lyW FP a (((i : Nat) : Int) - dw)) >>> k) ^^^ 4294967295) hx hb dX1_bareCellsIf_74 ?_
          refine k_roS (rest := [.int (iI (((x : Nat) : Int)))]) [.int (iI (((((lyAny FI (-1) ((i : Nat) : Int) 4) &&& ((lyAny FP ((a : Nat) : Int) ((i : Nat) : Int) 4) ^^^ 4294967295)) &&& (((lyW FP a (((i : Nat) : Int) - dw)) >>> k) ^^^ 4294967295) : Nat) : Int)))] ⟨hx, hb, hml, hown, hts⟩ (c_J6_bitCount_0f7a4 lM G (((lyAny FI (-1) ((i : Nat) : Int) 4) &&& ((lyAny FP ((a : Nat) : Int) ((i : Nat) : Int) 4) ^^^ 4294967295)) &&& (((lyW FP a (((i : Nat) : Int) - dw)) >>> k) ^^^ 4294967295)) (and_lt16 (and_lt16 (lyAny_lt h4 _ _ _) _) _)) (va_cwS 1 hts gX1_bareCellsIf_J6_bitCount_0f7a4 rfl rfl rfl (by decide +kernel) ⟨Nat.le_of_ble_eq_true rfl, Nat.le_of_ble_eq_true rfl⟩) hG (fun k q h => by simp at h) rfl rfl hl.1 (Nat.le_of_ble_eq_true rfl) ⟨Nat.zero_le _, Nat.zero_le _⟩ dX1_bareCellsIf_75 ?_
          refine k_iaddN (a := x) (b := (pop (((lyAny FI (-1) ((i : Nat) : Int) 4) &&& ((lyAny FP ((a : Nat) : Int) ((i : Nat) : Int) 4) ^^^ 4294967295)) &&& (((lyW FP a (((i : Nat) : Int) - dw)) >>> k) ^^^ 4294967295)))) hx hb dX1_bareCellsIf_78 ?_
          refine lv_istore (lv' := [(4, .int (iI (((x + (pop (((lyAny FI (-1) ((i : Nat) : Int) 4) &&& ((lyAny FP ((a : Nat) : Int) ((i : Nat) : Int) 4) ^^^ 4294967295)) &&& (((lyW FP a (((i : Nat) : Int) - dw)) >>> k) ^^^ 4294967295))) : Nat) : Int)))), (7, .int (iI ((((lyW FP a (((i : Nat) : Int) - dw)) >>> k : Nat) : Int)))), (6, .int (iI (((lyW FP a (((i : Nat) : Int) - dw) : Nat) : Int)))), (0, .ref p), (1, .int (iI (((a : Nat) : Int)))), (2, .int (iI (dw))), (3, .int (iI (-(k : Int)))), (5, .int (iI (((i : Nat) : Int))))]) hx hb dX1_bareCellsIf_79 hl (by decide) rfl (fun ls hl => ?_)
          refine k_iincN (n := 1) (lv' := [(5, .int (iI (((i + 1 : Nat) : Int)))), (4, .int (iI (((x + (pop (((lyAny FI (-1) ((i : Nat) : Int) 4) &&& ((lyAny FP ((a : Nat) : Int) ((i : Nat) : Int) 4) ^^^ 4294967295)) &&& (((lyW FP a (((i : Nat) : Int) - dw)) >>> k) ^^^ 4294967295))) : Nat) : Int)))), (7, .int (iI ((((lyW FP a (((i : Nat) : Int) - dw)) >>> k : Nat) : Int)))), (6, .int (iI (((lyW FP a (((i : Nat) : Int) - dw) : Nat) : Int)))), (0, .ref p), (1, .int (iI (((a : Nat) : Int)))), (2, .int (iI (dw))), (3, .int (iI (-(k : Int))))]) hx hb dX1_bareCellsIf_81 hl (k := 7) rfl (by decide) rfl (fun ls hl => ?_)
          refine lv_goto (tgt := 6) hx hb dX1_bareCellsIf_84 (by decide) ?_
          exact ih_6 (i + 1) (x + (pop (((lyAny FI (-1) ((i : Nat) : Int) 4) &&& ((lyAny FP ((a : Nat) : Int) ((i : Nat) : Int) 4) ^^^ 4294967295)) &&& (((lyW FP a (((i : Nat) : Int) - dw)) >>> k) ^^^ 4294967295)))) (by omega) (by rw [sumP, hxx, bifW, mvd]; first | (rw [if_pos (by omega)]; rfl) | (rw [if_neg (by omega), Int.neg_neg]; rfl) | (obtain rfl : k = 0 := (by omega); rfl)) (by omega) ls (lv_sub hl [4, 5, 6, 7, 1, 0] rfl)
        · obtain ⟨k, rfl⟩ : ∃ k : Nat, ac = (k : Int) := ⟨(ac).toNat, by omega⟩
          refine lv_iload hx hb dX1_bareCellsIf_31 (lv_at hl 0 rfl) ?_
          refine lv_iload_n hx hb dX1_bareCellsIf_33 rfl (lv_at hl 4 rfl) ?_
          refine k_ishl (a := lyW FP a (((i : Nat) : Int) - dw)) (b := k) hx hb (by omega) dX1_bareCellsIf_34 ?_
          refine lv_goto (tgt := 43) hx hb dX1_bareCellsIf_35 (by decide) ?_
          refine lv_istore (lv' := [(7, .int (iI ((((lyW FP a (((i : Nat) : Int) - dw)) <<< k : Nat) : Int)))), (6, .int (iI (((lyW FP a (((i : Nat) : Int) - dw) : Nat) : Int)))), (0, .ref p), (1, .int (iI (((a : Nat) : Int)))), (2, .int (iI (dw))), (3, .int (iI (((k : Nat) : Int)))), (4, .int (iI (((x : Nat) : Int)))), (5, .int (iI (((i : Nat) : Int))))]) hx hb dX1_bareCellsIf_43 hl (by decide) rfl (fun ls hl => ?_)
          refine lv_iload hx hb dX1_bareCellsIf_45 (lv_at hl 6 rfl) ?_
          refine lv_aload_n hx hb dX1_bareCellsIf_47 rfl (lv_at hl 2 rfl) ?_
          refine va_get (D := G.1) (ci := 1) (v := .ref qi) (C := RX1) (T := TX1) (N := 7) hx hb hts inX1_X1_bareCellsIf hown hG.1 hP 0 rfl rfl 2 (by decide) (hts (.fieldLink RX1 24 "InkOverInk$Press" "inked" "LInkOverInk$Layers;") (by decide +kernel)) (fun _ h9 => h9) rfl dX1_bareCellsIf_48 ?_
          refine lv_iconst (v := iI (-1)) hx hb dX1_bareCellsIf_51 rfl ?_
          refine lv_iload hx hb dX1_bareCellsIf_52 (lv_at hl 7 rfl) ?_
          refine k_roV (rest := [.int (iI (((x : Nat) : Int)))]) [.int (iI ((-1))), .int (iI (((i : Nat) : Int)))] ⟨hx, hb, hml, hown, hts⟩ (c_X0_anyBut lM G qi wi 4 FI (-1) ((i : Nat) : Int) (by omega) (by omega) (by omega)) (cwV 2 hts gX1_bareCellsIf_X0_anyBut rfl rfl rfl (by decide +kernel) ⟨Nat.le_of_ble_eq_true rfl, Nat.le_of_ble_eq_true rfl⟩) hG (va_recv hG.1 hP (ci := 0) (q0 := 1) rfl rfl) (hP.sub (ws' := [(qi, .inr (0, [.int (iI (4)), .ref wi])), (wi, .inl (G.2 0, 4 * 16, .inl (fun iX => iI ((FI iX : Nat) : Int))))]) [1, 2] rfl) rfl rfl hl.1 (Nat.le_of_ble_eq_true rfl) ⟨Nat.zero_le _, Nat.zero_le _⟩ dX1_bareCellsIf_54 ?_
          refine lv_aload_n hx hb dX1_bareCellsIf_57 rfl (lv_at hl 2 rfl) ?_
          refine va_get (D := G.1) (ci := 1) (v := .ref qp) (C := RX1) (T := TX1) (N := 7) hx hb hts inX1_X1_bareCellsIf hown hG.1 hP 0 rfl rfl 4 (by decide) (hts (.fieldLink RX1 30 "InkOverInk$Press" "plates" "LInkOverInk$Layers;") (by decide +kernel)) (fun _ h9 => h9) rfl dX1_bareCellsIf_58 ?_
          refine lv_iload_n hx hb dX1_bareCellsIf_61 rfl (lv_at hl 3 rfl) ?_
          refine lv_iload hx hb dX1_bareCellsIf_62 (lv_at hl 7 rfl) ?_
          refine k_roV (rest := [.int (iI (((lyAny FI (-1) ((i : Nat) : Int) 4 : Nat) : Int))), .int (iI (((x : Nat) : Int)))]) [.int (iI (((a : Nat) : Int))), .int (iI (((i : Nat) : Int)))] ⟨hx, hb, hml, hown, hts⟩ (c_X0_anyBut lM G qp wp 4 FP ((a : Nat) : Int) ((i : Nat) : Int) (by omega) (by omega) (by omega)) (cwV 2 hts gX1_bareCellsIf_X0_anyBut rfl rfl rfl (by decide +kernel) ⟨Nat.le_of_ble_eq_true rfl, Nat.le_of_ble_eq_true rfl⟩) hG (va_recv hG.1 hP (ci := 0) (q0 := 3) rfl rfl) (hP.sub (ws' := [(qp, .inr (0, [.int (iI (4)), .ref wp])), (wp, .inl (G.2 0, 4 * 16, .inl (fun iX => iI ((FP iX : Nat) : Int))))]) [3, 4] rfl) rfl rfl hl.1 (Nat.le_of_ble_eq_true rfl) ⟨Nat.zero_le _, Nat.zero_le _⟩ dX1_bareCellsIf_64 ?_
          refine lv_iconst (v := iI (-1)) hx hb dX1_bareCellsIf_67 rfl ?_
          refine k_inot (a := lyAny FP ((a : Nat) : Int) ((i : Nat) : Int) 4) hx hb dX1_bareCellsIf_68 ?_
          refine k_iand (a := lyAny FI (-1) ((i : Nat) : Int) 4) (b := (lyAny FP ((a : Nat) : Int) ((i : Nat) : Int) 4) ^^^ 4294967295) hx hb dX1_bareCellsIf_69 ?_
          refine lv_iload hx hb dX1_bareCellsIf_70 (lv_at hl 0 rfl) ?_
          refine lv_iconst (v := iI (-1)) hx hb dX1_bareCellsIf_72 rfl ?_
          refine k_inot (a := (lyW FP a (((i : Nat) : Int) - dw)) <<< k) hx hb dX1_bareCellsIf_73 ?_
          refine k_iand (a := (lyAny FI (-1) ((i : Nat) : Int) 4) &&& ((lyAny FP ((a : Nat) : Int) ((i : Nat) : Int) 4) ^^^ 4294967295)) (b := ((lyW FP a (((i : Nat) : Int) - dw)) <<< k) ^^^ 4294967295) hx hb dX1_bareCellsIf_74 ?_
          refine k_roS (rest := [.int (iI (((x : Nat) : Int)))]) [.int (iI (((((lyAny FI (-1) ((i : Nat) : Int) 4) &&& ((lyAny FP ((a : Nat) : Int) ((i : Nat) : Int) 4) ^^^ 4294967295)) &&& (((lyW FP a (((i : Nat) : Int) - dw)) <<< k) ^^^ 4294967295) : Nat) : Int)))] ⟨hx, hb, hml, hown, hts⟩ (c_J6_bitCount_0f7a4 lM G (((lyAny FI (-1) ((i : Nat) : Int) 4) &&& ((lyAny FP ((a : Nat) : Int) ((i : Nat) : Int) 4) ^^^ 4294967295)) &&& (((lyW FP a (((i : Nat) : Int) - dw)) <<< k) ^^^ 4294967295)) (and_lt16 (and_lt16 (lyAny_lt h4 _ _ _) _) _)) (va_cwS 1 hts gX1_bareCellsIf_J6_bitCount_0f7a4 rfl rfl rfl (by decide +kernel) ⟨Nat.le_of_ble_eq_true rfl, Nat.le_of_ble_eq_true rfl⟩) hG (fun k q h => by simp at h) rfl rfl hl.1 (Nat.le_of_ble_eq_true rfl) ⟨Nat.zero_le _, Nat.zero_le _⟩ dX1_bareCellsIf_75 ?_
          refine k_iaddN (a := x) (b := (pop (((lyAny FI (-1) ((i : Nat) : Int) 4) &&& ((lyAny FP ((a : Nat) : Int) ((i : Nat) : Int) 4) ^^^ 4294967295)) &&& (((lyW FP a (((i : Nat) : Int) - dw)) <<< k) ^^^ 4294967295)))) hx hb dX1_bareCellsIf_78 ?_
          refine lv_istore (lv' := [(4, .int (iI (((x + (pop (((lyAny FI (-1) ((i : Nat) : Int) 4) &&& ((lyAny FP ((a : Nat) : Int) ((i : Nat) : Int) 4) ^^^ 4294967295)) &&& (((lyW FP a (((i : Nat) : Int) - dw)) <<< k) ^^^ 4294967295))) : Nat) : Int)))), (7, .int (iI ((((lyW FP a (((i : Nat) : Int) - dw)) <<< k : Nat) : Int)))), (6, .int (iI (((lyW FP a (((i : Nat) : Int) - dw) : Nat) : Int)))), (0, .ref p), (1, .int (iI (((a : Nat) : Int)))), (2, .int (iI (dw))), (3, .int (iI (((k : Nat) : Int)))), (5, .int (iI (((i : Nat) : Int))))]) hx hb dX1_bareCellsIf_79 hl (by decide) rfl (fun ls hl => ?_)
          refine k_iincN (n := 1) (lv' := [(5, .int (iI (((i + 1 : Nat) : Int)))), (4, .int (iI (((x + (pop (((lyAny FI (-1) ((i : Nat) : Int) 4) &&& ((lyAny FP ((a : Nat) : Int) ((i : Nat) : Int) 4) ^^^ 4294967295)) &&& (((lyW FP a (((i : Nat) : Int) - dw)) <<< k) ^^^ 4294967295))) : Nat) : Int)))), (7, .int (iI ((((lyW FP a (((i : Nat) : Int) - dw)) <<< k : Nat) : Int)))), (6, .int (iI (((lyW FP a (((i : Nat) : Int) - dw) : Nat) : Int)))), (0, .ref p), (1, .int (iI (((a : Nat) : Int)))), (2, .int (iI (dw))), (3, .int (iI (((k : Nat) : Int))))]) hx hb dX1_bareCellsIf_81 hl (k := 7) rfl (by decide) rfl (fun ls hl => ?_)
          refine lv_goto (tgt := 6) hx hb dX1_bareCellsIf_84 (by decide) ?_
          exact ih_6 (i + 1) (x + (pop (((lyAny FI (-1) ((i : Nat) : Int) 4) &&& ((lyAny FP ((a : Nat) : Int) ((i : Nat) : Int) 4) ^^^ 4294967295)) &&& (((lyW FP a (((i : Nat) : Int) - dw)) <<< k) ^^^ 4294967295)))) (by omega) (by rw [sumP, hxx, bifW, mvd]; first | (rw [if_pos (by omega)]; rfl) | (rw [if_neg (by omega), Int.neg_neg]; rfl) | (obtain rfl : k = 0 := (by omega); rfl)) (by omega) ls (lv_sub hl [4, 5, 6, 7, 1, 0] rfl)
  exact loop_6 (17 - 0) 0 0 (by omega) rfl (Nat.le_refl _) ls (lv_sub hl [2, 3, 4, 5, 1, 0] rfl)

def rmX1_isSafe : Room := { frames := 3, cells := 0, slots := 0, locals := 70 }
set_option maxRecDepth 20000 in
theorem inX1_X1_isSafe : ∀ w ∈ wsX10, w ∈ wsX1_isSafe := by decide +kernel
set_option maxHeartbeats 4000000 in
set_option maxRecDepth 100000 in
theorem c_X1_isSafe (lM : Launch) (G : GG) (p sa qo qi qs qp qh dn : Nat) (wd wp : Nat) (FD FP : Nat → Nat) (n : Nat) (h1 : n ≤ 15) (h2 : ∀ k, FD k < 65536) (h3 : ∀ k, FP k < 65536) : Met lM yX1_isSafe wsX1_isSafe rmX1_isSafe (ro G [.ref p, .int (iI (((n : Nat) : Int)))] [(p, .inr (1, [.ref sa, .ref qo, .ref qi, .ref qs, .ref qp, .ref qh, .int (iI (((dn : Nat) : Int)))])), (qs, .inr (0, [.int (iI (1)), .ref wd])), (wd, .inl (G.2 0, 1 * 16, .inl (fun iX => iI ((FD iX : Nat) : Int)))), (qp, .inr (0, [.int (iI (4)), .ref wp])), (wp, .inl (G.2 0, 4 * 16, .inl (fun iX => iI ((FP iX : Nat) : Int))))]) (roQ (.int (iI (b2i (decide (safP FD FP n)))))) 0 0 (fun _ => False) := by
  refine ro_of (cc := cX1_isSafe) (maxL := 5) (ret := (some .boolean)) (by decide) rfl (Nat.le_of_ble_eq_true rfl) ?_
  intro pM eM sM mM bM tM cM hx hb hr hts hown hlocks hml hG hP ls hl
  have hown : sM.vm.findClass RX1 = some mM.cls := hown
  have hl : lv_has ls 5 [(0, .ref p), (1, .int (iI (((n : Nat) : Int))))] := hl
  refine lv_iconst (v := iI (0)) hx hb dX1_isSafe_0 rfl ?_
  refine lv_istore_n (lv' := [(2, .int (iI (0))), (0, .ref p), (1, .int (iI (((n : Nat) : Int))))]) hx hb dX1_isSafe_1 rfl hl (by decide) rfl (fun ls hl => ?_)
  have loop_2 : ∀ (n_2 : Nat) (r : Nat), (r ≤ 16) → (∀ q, q < r → ∀ i, i < 4 → sfX FD FP n q i = 0) → 17 - r ≤ n_2 → ∀ ls : Array Slot, lv_has ls 5 [(0, .ref p), (1, .int (iI (((n : Nat) : Int)))), (2, .int (iI (((r : Nat) : Int))))] → W pM lM eM rmX1_isSafe sM mM ([.ref p, .int (iI (((n : Nat) : Int)))] : List Value).toArray bM tM cM sM.heap [] 0 0 (MQ bM (roQ (.int (iI (b2i (decide (safP FD FP n)))))) ([.ref p, .int (iI (((n : Nat) : Int)))] : List Value).toArray sM 0 0 (fun _ => False)) (F0 mM 2 ls []) := by
    intro n_2
    induction n_2 with
    | zero =>
      intro r hr9 hsf hm_2 ls hl
      exact absurd hm_2 (by omega)
    | succ n_2 ih_2 =>
      intro r hr9 hsf hm_2 ls hl
      refine lv_iload_n hx hb dX1_isSafe_2 rfl (lv_at hl 2 rfl) ?_
      refine lv_bipush (v := iI (16)) hx hb dX1_isSafe_3 (by decide) ?_
      refine k_icmp_ge (a := ((r : Nat) : Int)) (b := 16) (tgt := 77) hx hb (by omega) (by omega) dX1_isSafe_5 (by decide) (fun c_5 => ?_) (fun c_5 => ?_)
      · refine lv_iconst (v := iI (1)) hx hb dX1_isSafe_77 rfl ?_
        exact ro_zret (a := 1) hx hb hr hlocks dX1_isSafe_78 ((b2i_t (P := safP FD FP n) (fun q hq i2 hi2 => hsf q (by omega) i2 hi2)).symm)
      · refine lv_aload_n hx hb dX1_isSafe_8 rfl (lv_at hl 0 rfl) ?_
        refine va_get (D := G.1) (ci := 1) (v := .ref qs) (C := RX1) (T := TX1) (N := 7) hx hb hts inX1_X1_isSafe hown hG.1 hP 0 rfl rfl 3 (by decide) (hts (.fieldLink RX1 27 "InkOverInk$Press" "solid" "LInkOverInk$Layers;") (by decide +kernel)) (fun _ h9 => h9) rfl dX1_isSafe_9 ?_
        refine lv_iconst (v := iI (0)) hx hb dX1_isSafe_12 rfl ?_
        refine lv_iload_n hx hb dX1_isSafe_13 rfl (lv_at hl 2 rfl) ?_
        refine lv_iload_n hx hb dX1_isSafe_14 rfl (lv_at hl 1 rfl) ?_
        refine k_roV (rest := []) [.int (iI (0)), .int (iI (((r : Nat) : Int))), .int (iI (((n : Nat) : Int)))] ⟨hx, hb, hml, hown, hts⟩ (c_X0_surrounded lM G qs wd 1 0 FD ((r : Nat) : Int) n (by omega) (by omega) (by omega) (by omega) h2) (cwV 3 hts gX1_isSafe_X0_surrounded rfl rfl rfl (by decide +kernel) ⟨Nat.le_of_ble_eq_true rfl, Nat.le_of_ble_eq_true rfl⟩) hG (va_recv hG.1 hP (ci := 0) (q0 := 1) rfl rfl) (hP.sub (ws' := [(qs, .inr (0, [.int (iI (1)), .ref wd])), (wd, .inl (G.2 0, 1 * 16, .inl (fun iX => iI ((FD iX : Nat) : Int))))]) [1, 2] rfl) rfl rfl hl.1 (Nat.le_of_ble_eq_true rfl) ⟨Nat.zero_le _, Nat.zero_le _⟩ dX1_isSafe_15 ?_
        refine lv_istore_n (lv' := [(3, .int (iI (((lySur FD 0 ((r : Nat) : Int) n : Nat) : Int)))), (0, .ref p), (1, .int (iI (((n : Nat) : Int)))), (2, .int (iI (((r : Nat) : Int))))]) hx hb dX1_isSafe_18 rfl hl (by decide) rfl (fun ls hl => ?_)
        refine lv_iconst (v := iI (0)) hx hb dX1_isSafe_19 rfl ?_
        refine lv_istore (lv' := [(4, .int (iI (0))), (3, .int (iI (((lySur FD 0 ((r : Nat) : Int) n : Nat) : Int)))), (0, .ref p), (1, .int (iI (((n : Nat) : Int)))), (2, .int (iI (((r : Nat) : Int))))]) hx hb dX1_isSafe_20 hl (by decide) rfl (fun ls hl => ?_)
        have loop_22 : ∀ (n_22 : Nat) (i : Nat), (i ≤ 4) → (∀ k, k < i → sfX FD FP n r k = 0) → 5 - i ≤ n_22 → ∀ ls : Array Slot, lv_has ls 5 [(0, .ref p), (1, .int (iI (((n : Nat) : Int)))), (2, .int (iI (((r : Nat) : Int)))), (3, .int (iI (((lySur FD 0 (r : Int) n : Nat) : Int)))), (4, .int (iI (((i : Nat) : Int))))] → W pM lM eM rmX1_isSafe sM mM ([.ref p, .int (iI (((n : Nat) : Int)))] : List Value).toArray bM tM cM sM.heap [] 0 0 (MQ bM (roQ (.int (iI (b2i (decide (safP FD FP n)))))) ([.ref p, .int (iI (((n : Nat) : Int)))] : List Value).toArray sM 0 0 (fun _ => False)) (F0 mM 22 ls []) := by
          intro n_22
          induction n_22 with
          | zero =>
            intro i hi hrow hm_22 ls hl
            exact absurd hm_22 (by omega)
          | succ n_22 ih_22 =>
            intro i hi hrow hm_22 ls hl
            refine lv_iload_n hx hb dX1_isSafe_22 rfl (lv_at hl 3 rfl) ?_
            refine k_if_eq (a := ((lySur FD 0 (r : Int) n : Nat) : Int)) (tgt := 71) hx hb (by have := lySur_lt h2 0 (r : Int) n; omega) dX1_isSafe_23 (by decide) (fun c_23 => ?_) (fun c_23 => ?_)
            · have hz : ∀ i2, sfX FD FP n r i2 = 0 := fun i2 => by have e0 : lySur FD 0 (r : Int) n = 0 := (by omega); unfold sfX; rw [e0, Nat.zero_and, Nat.zero_and]
              refine k_iincN (n := 1) (lv' := [(2, .int (iI (((r + 1 : Nat) : Int)))), (0, .ref p), (1, .int (iI (((n : Nat) : Int)))), (3, .int (iI (((lySur FD 0 (r : Int) n : Nat) : Int)))), (4, .int (iI (((i : Nat) : Int))))]) hx hb dX1_isSafe_71 hl (k := 2) rfl (by decide) rfl (fun ls hl => ?_)
              refine lv_goto (tgt := 2) hx hb dX1_isSafe_74 (by decide) ?_
              exact ih_2 (r + 1) (by omega) (fun q hq i2 hi2 => by rcases Nat.lt_or_ge q r with g1 | g1; exact hsf q g1 i2 hi2; obtain rfl : q = r := (by omega); first | exact hrow i2 (by omega) | exact hz i2) (by omega) ls (lv_sub hl [1, 2, 0] rfl)
            · refine lv_iload hx hb dX1_isSafe_26 (lv_at hl 4 rfl) ?_
              refine lv_iconst (v := iI (4)) hx hb dX1_isSafe_28 rfl ?_
              refine k_icmp_ge (a := ((i : Nat) : Int)) (b := 4) (tgt := 71) hx hb (by omega) (by omega) dX1_isSafe_29 (by decide) (fun c_29 => ?_) (fun c_29 => ?_)
              · refine k_iincN (n := 1) (lv' := [(2, .int (iI (((r + 1 : Nat) : Int)))), (0, .ref p), (1, .int (iI (((n : Nat) : Int)))), (3, .int (iI (((lySur FD 0 (r : Int) n : Nat) : Int)))), (4, .int (iI (((i : Nat) : Int))))]) hx hb dX1_isSafe_71 hl (k := 2) rfl (by decide) rfl (fun ls hl => ?_)
                refine lv_goto (tgt := 2) hx hb dX1_isSafe_74 (by decide) ?_
                exact ih_2 (r + 1) (by omega) (fun q hq i2 hi2 => by rcases Nat.lt_or_ge q r with g1 | g1; exact hsf q g1 i2 hi2; obtain rfl : q = r := (by omega); first | exact hrow i2 (by omega) | exact hz i2) (by omega) ls (lv_sub hl [1, 2, 0] rfl)
              · refine lv_iload_n hx hb dX1_isSafe_32 rfl (lv_at hl 3 rfl) ?_
                refine lv_aload_n hx hb dX1_isSafe_33 rfl (lv_at hl 0 rfl) ?_
                refine va_get (D := G.1) (ci := 1) (v := .ref qp) (C := RX1) (T := TX1) (N := 7) hx hb hts inX1_X1_isSafe hown hG.1 hP 0 rfl rfl 4 (by decide) (hts (.fieldLink RX1 30 "InkOverInk$Press" "plates" "LInkOverInk$Layers;") (by decide +kernel)) (fun _ h9 => h9) rfl dX1_isSafe_34 ?_
                refine lv_iload hx hb dX1_isSafe_37 (lv_at hl 4 rfl) ?_
                refine lv_iload_n hx hb dX1_isSafe_39 rfl (lv_at hl 2 rfl) ?_
                refine k_roV (rest := [.int (iI (((lySur FD 0 (r : Int) n : Nat) : Int)))]) [.int (iI (((i : Nat) : Int))), .int (iI (((r : Nat) : Int)))] ⟨hx, hb, hml, hown, hts⟩ (c_X0_anyBut lM G qp wp 4 FP ((i : Nat) : Int) ((r : Nat) : Int) (by omega) (by omega) (by omega)) (cwV 2 hts gX1_isSafe_X0_anyBut rfl rfl rfl (by decide +kernel) ⟨Nat.le_of_ble_eq_true rfl, Nat.le_of_ble_eq_true rfl⟩) hG (va_recv hG.1 hP (ci := 0) (q0 := 3) rfl rfl) (hP.sub (ws' := [(qp, .inr (0, [.int (iI (4)), .ref wp])), (wp, .inl (G.2 0, 4 * 16, .inl (fun iX => iI ((FP iX : Nat) : Int))))]) [3, 4] rfl) rfl rfl hl.1 (Nat.le_of_ble_eq_true rfl) ⟨Nat.zero_le _, Nat.zero_le _⟩ dX1_isSafe_40 ?_
                refine lv_iconst (v := iI (-1)) hx hb dX1_isSafe_43 rfl ?_
                refine k_inot (a := lyAny FP ((i : Nat) : Int) ((r : Nat) : Int) 4) hx hb dX1_isSafe_44 ?_
                refine k_iand (a := lySur FD 0 (r : Int) n) (b := (lyAny FP ((i : Nat) : Int) ((r : Nat) : Int) 4) ^^^ 4294967295) hx hb dX1_isSafe_45 ?_
                refine lv_aload_n hx hb dX1_isSafe_46 rfl (lv_at hl 0 rfl) ?_
                refine va_get (D := G.1) (ci := 1) (v := .ref qp) (C := RX1) (T := TX1) (N := 7) hx hb hts inX1_X1_isSafe hown hG.1 hP 0 rfl rfl 4 (by decide) (hts (.fieldLink RX1 30 "InkOverInk$Press" "plates" "LInkOverInk$Layers;") (by decide +kernel)) (fun _ h9 => h9) rfl dX1_isSafe_47 ?_
                refine lv_iload hx hb dX1_isSafe_50 (lv_at hl 4 rfl) ?_
                refine lv_iload_n hx hb dX1_isSafe_52 rfl (lv_at hl 2 rfl) ?_
                refine lv_iload_n hx hb dX1_isSafe_53 rfl (lv_at hl 1 rfl) ?_
                refine k_roV (rest := [.int (iI ((((lySur FD 0 (r : Int) n) &&& ((lyAny FP ((i : Nat) : Int) ((r : Nat) : Int) 4) ^^^ 4294967295) : Nat) : Int)))]) [.int (iI (((i : Nat) : Int))), .int (iI (((r : Nat) : Int))), .int (iI (((n : Nat) : Int)))] ⟨hx, hb, hml, hown, hts⟩ (c_X0_surrounded lM G qp wp 4 i FP ((r : Nat) : Int) n (by omega) (by omega) (by omega) (by omega) h3) (cwV 3 hts gX1_isSafe_X0_surrounded rfl rfl rfl (by decide +kernel) ⟨Nat.le_of_ble_eq_true rfl, Nat.le_of_ble_eq_true rfl⟩) hG (va_recv hG.1 hP (ci := 0) (q0 := 3) rfl rfl) (hP.sub (ws' := [(qp, .inr (0, [.int (iI (4)), .ref wp])), (wp, .inl (G.2 0, 4 * 16, .inl (fun iX => iI ((FP iX : Nat) : Int))))]) [3, 4] rfl) rfl rfl hl.1 (Nat.le_of_ble_eq_true rfl) ⟨Nat.zero_le _, Nat.zero_le _⟩ dX1_isSafe_54 ?_
                refine lv_iconst (v := iI (-1)) hx hb dX1_isSafe_57 rfl ?_
                refine k_inot (a := lySur FP i ((r : Nat) : Int) n) hx hb dX1_isSafe_58 ?_
                refine k_iand (a := (lySur FD 0 (r : Int) n) &&& ((lyAny FP ((i : Nat) : Int) ((r : Nat) : Int) 4) ^^^ 4294967295)) (b := (lySur FP i ((r : Nat) : Int) n) ^^^ 4294967295) hx hb dX1_isSafe_59 ?_
                refine k_if_eq (a := ((((lySur FD 0 (r : Int) n) &&& ((lyAny FP ((i : Nat) : Int) ((r : Nat) : Int) 4) ^^^ 4294967295)) &&& ((lySur FP i ((r : Nat) : Int) n) ^^^ 4294967295) : Nat) : Int)) (tgt := 65) hx hb (by have := and_lt16 (and_lt16 (lySur_lt h2 0 (r : Int) n) (lyAny FP (i : Int) (r : Int) 4 ^^^ 4294967295)) (lySur FP i (r : Int) n ^^^ 4294967295); omega) dX1_isSafe_60 (by decide) (fun c_60 => ?_) (fun c_60 => ?_)
                · refine k_iincN (n := 1) (lv' := [(4, .int (iI (((i + 1 : Nat) : Int)))), (0, .ref p), (1, .int (iI (((n : Nat) : Int)))), (2, .int (iI (((r : Nat) : Int)))), (3, .int (iI (((lySur FD 0 (r : Int) n : Nat) : Int))))]) hx hb dX1_isSafe_65 hl (k := 4) rfl (by decide) rfl (fun ls hl => ?_)
                  refine lv_goto (tgt := 22) hx hb dX1_isSafe_68 (by decide) ?_
                  exact ih_22 (i + 1) (by omega) (fun k hk => by rcases Nat.lt_or_ge k i with g1 | g1; exact hrow k g1; obtain rfl : k = i := (by omega); unfold sfX; omega) (by omega) ls (lv_sub hl [1, 2, 3, 4, 0] rfl)
                · refine lv_iconst (v := iI (0)) hx hb dX1_isSafe_63 rfl ?_
                  exact ro_zret (a := 0) hx hb hr hlocks dX1_isSafe_64 ((b2i_f (P := safP FD FP n) (fun q => c_60 (by have := q r (by omega) i (by omega); unfold sfX at this; omega))).symm)
        exact loop_22 (5 - 0) 0 (by omega) (fun q hq => absurd hq (Nat.not_lt_zero q)) (Nat.le_refl _) ls (lv_sub hl [2, 3, 4, 1, 0] rfl)
  exact loop_2 (17 - 0) 0 (by omega) (fun q hq => absurd hq (Nat.not_lt_zero q)) (Nat.le_refl _) ls (lv_sub hl [1, 2, 0] rfl)
