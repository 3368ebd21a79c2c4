/-! shapes and sheets: what they answer -/
abbrev ovalP (ht wd : Nat) (r c : Int) : Prop := ((2 * r + 1 - (ht : Int)) * (wd : Int)) * ((2 * r + 1 - (ht : Int)) * (wd : Int)) + ((2 * c + 1 - (wd : Int)) * (ht : Int)) * ((2 * c + 1 - (wd : Int)) * (ht : Int)) ≤ ((ht : Int) * (wd : Int)) * ((ht : Int) * (wd : Int))
abbrev kindP (kd ht wd : Nat) (r c : Int) : Prop := (kd = 1 → ovalP ht wd r c) ∧ (kd = 2 → r * (wd : Int) ≤ c * (ht : Int)) ∧ (kd = 3 → r = 0 ∨ r = (ht : Int) - 1 ∨ c = 0 ∨ c = (wd : Int) - 1)
abbrev covP (kd : Nat) (tp lf : Int) (ht wd : Nat) (r c : Int) : Prop := (0 ≤ r - tp ∧ r - tp ≤ (ht : Int) - 1) ∧ (0 ≤ c - lf ∧ c - lf ≤ (wd : Int) - 1) ∧ kindP kd ht wd (r - tp) (c - lf)
def dark (WT : Nat → Nat) (cl : Nat) : Nat → Nat
  | 0 => 0
  | i + 1 => dark WT cl i + (if (cl >>> i) &&& 1 = 1 then WT i else 0)
theorem dark_le {WT : Nat → Nat} (h : ∀ k, WT k ≤ 20) (cl : Nat) : ∀ i, dark WT cl i ≤ 20 * i
  | 0 => Nat.le_refl _
  | i + 1 => by
    have h1 := dark_le h cl i
    have h2 := h i
    unfold dark
    split <;> omega
abbrev lightP (WT : Nat → Nat) (a b : Nat) : Prop := dark WT a 4 < dark WT b 4 ∨ (dark WT a 4 = dark WT b 4 ∧ a < b)
def dkr (WT : Nat → Nat) (cl : Nat) : Nat → Nat
  | 0 => 0
  | o + 1 => if lightP WT cl o then dkr WT cl o ||| (1 <<< o) else dkr WT cl o
def offC (AC : Nat → Int) (cr : Int) (i c : Nat) : Int := AC i + ((c : Int) * cr).tdiv 8
def iabs (z : Int) : Int := if 0 ≤ z then z else -z
theorem tdiv8 {z : Int} (h : -128 ≤ z ∧ z ≤ 128) : -16 ≤ z.tdiv 8 ∧ z.tdiv 8 ≤ 16 := by
  rcases Int.le_total 0 z with q | q
  · have e : z.tdiv 8 = z / 8 := Int.tdiv_eq_ediv_of_nonneg q
    rw [e]
    omega
  · have e : (-z).tdiv 8 = (-z) / 8 := Int.tdiv_eq_ediv_of_nonneg (by omega)
    rw [Int.neg_tdiv] at e
    omega
theorem offC_bd {AC : Nat → Int} {cr : Int} {i c : Nat} (h1 : -6 ≤ AC i ∧ AC i ≤ 6) (h2 : -8 ≤ cr ∧ cr ≤ 8) (h3 : c ≤ 16) : -22 ≤ offC AC cr i c ∧ offC AC cr i c ≤ 22 := by
  have e := mul_bd (x := cr) (y := (c : Int)) (a := 8) (b := 16) (by omega) (by omega) (by omega)
  have e3 : cr * (c : Int) = (c : Int) * cr := Int.mul_comm _ _
  have e2 := tdiv8 (z := (c : Int) * cr) (by omega)
  unfold offC
  omega
def rchC (AC : Nat → Int) (cr : Int) (i : Nat) (x : Int) : Nat → Int
  | 0 => x
  | c + 1 => max (rchC AC cr i x c) (iabs (offC AC cr i c))
def rch (DN AC : Nat → Int) (cr : Int) (cm : Nat) : Nat → Int
  | 0 => 0
  | i + 1 => rchC AC cr i (max (rch DN AC cr cm i) (iabs (DN i))) cm
def plc (OR : Nat → Nat) (ly : Nat) (n : Int) : Nat → Int
  | 0 => -1
  | k + 1 => if (OR (ly - (k + 1)) : Int) = n then ((ly - (k + 1) : Nat) : Int) else plc OR ly n k
def cntE (SE : Nat → Int) (n : Int) : Nat → Nat
  | 0 => 0
  | k + 1 => cntE SE n k + (if SE k = n then 1 else 0)
theorem cntE_le (SE : Nat → Int) (n : Int) : ∀ k, cntE SE n k ≤ k
  | 0 => Nat.le_refl _
  | k + 1 => by
    have := cntE_le SE n k
    unfold cntE
    split <;> omega
def opn (F : Nat → Nat) (cs : Nat) (z : Int) : Nat → Nat
  | 0 => 0
  | k + 1 => if (cs >>> (k + 1)) &&& 1 = 1 then opn F cs z k ||| lyW F (k + 1) z else opn F cs z k
def rmX2_isInOval : Room := { frames := 0, cells := 0, slots := 0, locals := 0 }
set_option maxRecDepth 20000 in
theorem inX2_X2_isInOval : ∀ w ∈ wsX20, w ∈ wsX2_isInOval := by decide +kernel
set_option maxHeartbeats 4000000 in
set_option maxRecDepth 100000 in
theorem c_X2_isInOval (lM : Launch) (G : GG) (h : Nat) (kd : Nat) (tp lf : Int) (ht wd cl : Nat) (fn : Bool) (r c : Int) (h1 : 0 ≤ r ∧ r < (ht : Int)) (h2 : 0 ≤ c ∧ c < (wd : Int)) (h3 : ht ≤ 32) (h4 : wd ≤ 32) : Met lM yX2_isInOval wsX2_isInOval rmX2_isInOval (ro G [.ref h, .int (iI (r)), .int (iI (c))] [(h, .inr (2, [.int (iI (((kd : Nat) : Int))), .int (iI (tp)), .int (iI (lf)), .int (iI (((ht : Nat) : Int))), .int (iI (((wd : Nat) : Int))), .int (iI (((cl : Nat) : Int))), .int (iI (b2i fn))]))]) (roQ (.int (iI (b2i (decide (ovalP ht wd r c)))))) 0 0 (fun _ => False) := by
  refine ro_of (cc := cX2_isInOval) (maxL := 6) (ret := (some .boolean)) (by decide) rfl (Nat.le_of_ble_eq_true rfl) ?_
  intro pM eM sM mM bM tM cM hx hb hr hts hown hlocks hml hG hP ls hl
  have hown : sM.vm.findClass RX2 = some mM.cls := hown
  have hl : lv_has ls 6 [(0, .ref h), (1, .int (iI (r))), (2, .int (iI (c)))] := hl
  refine lv_iconst (v := iI (2)) hx hb dX2_isInOval_0 rfl ?_
  refine lv_iload_n hx hb dX2_isInOval_1 rfl (lv_at hl 1 rfl) ?_
  refine k_imul (a := 2) (b := r) hx hb dX2_isInOval_2 ?_
  refine lv_iconst (v := iI (1)) hx hb dX2_isInOval_3 rfl ?_
  refine k_iadd (a := 2 * r) (b := 1) hx hb dX2_isInOval_4 ?_
  refine lv_aload_n hx hb dX2_isInOval_5 rfl (lv_at hl 0 rfl) ?_
  refine va_get (D := G.1) (ci := 2) (v := .int (iI (((ht : Nat) : Int)))) (C := RX2) (T := TX2) (N := 7) hx hb hts inX2_X2_isInOval hown hG.1 hP 0 rfl rfl 3 (by decide) (hts (.fieldLink RX2 21 "InkOverInk$Shape" "height" "I") (by decide +kernel)) (fun _ h9 => h9) rfl dX2_isInOval_6 ?_
  refine k_isub (a := (2 * r) + 1) (b := ((ht : Nat) : Int)) hx hb dX2_isInOval_9 ?_
  refine lv_aload_n hx hb dX2_isInOval_10 rfl (lv_at hl 0 rfl) ?_
  refine va_get (D := G.1) (ci := 2) (v := .int (iI (((wd : Nat) : Int)))) (C := RX2) (T := TX2) (N := 7) hx hb hts inX2_X2_isInOval hown hG.1 hP 0 rfl rfl 4 (by decide) (hts (.fieldLink RX2 24 "InkOverInk$Shape" "width" "I") (by decide +kernel)) (fun _ h9 => h9) rfl dX2_isInOval_11 ?_
  refine k_imul (a := ((2 * r) + 1) - ((ht : Nat) : Int)) (b := ((wd : Nat) : Int)) hx hb dX2_isInOval_14 ?_
  refine k_top (a := (((2 * r) + 1) - ((ht : Nat) : Int)) * ((wd : Nat) : Int)) (fun u eu => ?_)
  refine lv_istore_n (lv' := [(3, .int (iI (u))), (0, .ref h), (1, .int (iI (r))), (2, .int (iI (c)))]) hx hb dX2_isInOval_15 rfl hl (by decide) rfl (fun ls hl => ?_)
  refine lv_iconst (v := iI (2)) hx hb dX2_isInOval_16 rfl ?_
  refine lv_iload_n hx hb dX2_isInOval_17 rfl (lv_at hl 3 rfl) ?_
  refine k_imul (a := 2) (b := c) hx hb dX2_isInOval_18 ?_
  refine lv_iconst (v := iI (1)) hx hb dX2_isInOval_19 rfl ?_
  refine k_iadd (a := 2 * c) (b := 1) hx hb dX2_isInOval_20 ?_
  refine lv_aload_n hx hb dX2_isInOval_21 rfl (lv_at hl 1 rfl) ?_
  refine va_get (D := G.1) (ci := 2) (v := .int (iI (((wd : Nat) : Int)))) (C := RX2) (T := TX2) (N := 7) hx hb hts inX2_X2_isInOval hown hG.1 hP 0 rfl rfl 4 (by decide) (hts (.fieldLink RX2 24 "InkOverInk$Shape" "width" "I") (by decide +kernel)) (fun _ h9 => h9) rfl dX2_isInOval_22 ?_
  refine k_isub (a := (2 * c) + 1) (b := ((wd : Nat) : Int)) hx hb dX2_isInOval_25 ?_
  refine lv_aload_n hx hb dX2_isInOval_26 rfl (lv_at hl 1 rfl) ?_
  refine va_get (D := G.1) (ci := 2) (v := .int (iI (((ht : Nat) : Int)))) (C := RX2) (T := TX2) (N := 7) hx hb hts inX2_X2_isInOval hown hG.1 hP 0 rfl rfl 3 (by decide) (hts (.fieldLink RX2 21 "InkOverInk$Shape" "height" "I") (by decide +kernel)) (fun _ h9 => h9) rfl dX2_isInOval_27 ?_
  refine k_imul (a := ((2 * c) + 1) - ((wd : Nat) : Int)) (b := ((ht : Nat) : Int)) hx hb dX2_isInOval_30 ?_
  refine k_top (a := (((2 * c) + 1) - ((wd : Nat) : Int)) * ((ht : Nat) : Int)) (fun v ev => ?_)
  refine lv_istore (lv' := [(4, .int (iI (v))), (3, .int (iI (u))), (0, .ref h), (1, .int (iI (r))), (2, .int (iI (c)))]) hx hb dX2_isInOval_31 hl (by decide) rfl (fun ls hl => ?_)
  refine lv_aload_n hx hb dX2_isInOval_33 rfl (lv_at hl 2 rfl) ?_
  refine va_get (D := G.1) (ci := 2) (v := .int (iI (((ht : Nat) : Int)))) (C := RX2) (T := TX2) (N := 7) hx hb hts inX2_X2_isInOval hown hG.1 hP 0 rfl rfl 3 (by decide) (hts (.fieldLink RX2 21 "InkOverInk$Shape" "height" "I") (by decide +kernel)) (fun _ h9 => h9) rfl dX2_isInOval_34 ?_
  refine lv_aload_n hx hb dX2_isInOval_37 rfl (lv_at hl 2 rfl) ?_
  refine va_get (D := G.1) (ci := 2) (v := .int (iI (((wd : Nat) : Int)))) (C := RX2) (T := TX2) (N := 7) hx hb hts inX2_X2_isInOval hown hG.1 hP 0 rfl rfl 4 (by decide) (hts (.fieldLink RX2 24 "InkOverInk$Shape" "width" "I") (by decide +kernel)) (fun _ h9 => h9) rfl dX2_isInOval_38 ?_
  refine k_imulN (a := ht) (b := wd) hx hb dX2_isInOval_41 ?_
  refine k_top (a := ((ht * wd : Nat) : Int)) (fun q eq => ?_)
  refine lv_istore (lv' := [(5, .int (iI (q))), (4, .int (iI (v))), (3, .int (iI (u))), (0, .ref h), (1, .int (iI (r))), (2, .int (iI (c)))]) hx hb dX2_isInOval_42 hl (by decide) rfl (fun ls hl => ?_)
  have b1 := mul_bd (x := 2 * r + 1 - (ht : Int)) (y := (wd : Int)) (a := 32) (b := 32) (by omega) (by omega) (by omega)
  have b2 := mul_bd (x := 2 * c + 1 - (wd : Int)) (y := (ht : Int)) (a := 32) (b := 32) (by omega) (by omega) (by omega)
  have b3 := mul_bd (x := (ht : Int)) (y := (wd : Int)) (a := 32) (b := 32) (by omega) (by omega) (by omega)
  have eu2 : u = (2 * r + 1 - (ht : Int)) * (wd : Int) := eu
  have ev2 : v = (2 * c + 1 - (wd : Int)) * (ht : Int) := ev
  have eq2 : q = (ht : Int) * (wd : Int) := by rw [eq]; exact Int.natCast_mul ht wd
  have b4 := sq_bd (x := u) (a := 1024) (by omega)
  have b5 := sq_bd (x := v) (a := 1024) (by omega)
  have b6 := sq_bd (x := q) (a := 1024) (by omega)
  refine lv_iload_n hx hb dX2_isInOval_44 rfl (lv_at hl 2 rfl) ?_
  refine lv_iload_n hx hb dX2_isInOval_45 rfl (lv_at hl 2 rfl) ?_
  refine k_imul (a := u) (b := u) hx hb dX2_isInOval_46 ?_
  refine lv_iload hx hb dX2_isInOval_47 (lv_at hl 1 rfl) ?_
  refine lv_iload hx hb dX2_isInOval_49 (lv_at hl 1 rfl) ?_
  refine k_imul (a := v) (b := v) hx hb dX2_isInOval_51 ?_
  refine k_iadd (a := u * u) (b := v * v) hx hb dX2_isInOval_52 ?_
  refine lv_iload hx hb dX2_isInOval_53 (lv_at hl 0 rfl) ?_
  refine lv_iload hx hb dX2_isInOval_55 (lv_at hl 0 rfl) ?_
  refine k_imul (a := q) (b := q) hx hb dX2_isInOval_57 ?_
  refine k_icmp_gt (a := (u * u) + (v * v)) (b := q * q) (tgt := 65) hx hb (by omega) (by omega) dX2_isInOval_58 (by decide) (fun c_58 => ?_) (fun c_58 => ?_)
  · refine lv_iconst (v := iI (0)) hx hb dX2_isInOval_65 rfl ?_
    exact ro_zret (a := 0) hx hb hr hlocks dX2_isInOval_66 ((b2i_f (P := ovalP ht wd r c) (by show ¬ _ * _ + _ * _ ≤ _ * _; rw [← eu2, ← ev2, ← eq2]; omega)).symm)
  · refine lv_iconst (v := iI (1)) hx hb dX2_isInOval_61 rfl ?_
    refine lv_goto (tgt := 66) hx hb dX2_isInOval_62 (by decide) ?_
    exact ro_zret (a := 1) hx hb hr hlocks dX2_isInOval_66 ((b2i_t (P := ovalP ht wd r c) (by show _ * _ + _ * _ ≤ _ * _; rw [← eu2, ← ev2, ← eq2]; omega)).symm)

def rmX2_covers : Room := { frames := 1, cells := 0, slots := 0, locals := 25 }
set_option maxRecDepth 20000 in
theorem inX2_X2_covers : ∀ w ∈ wsX20, w ∈ wsX2_covers := by decide +kernel
set_option maxHeartbeats 4000000 in
set_option maxRecDepth 100000 in
theorem c_X2_covers (lM : Launch) (G : GG) (h : Nat) (kd : Nat) (tp lf : Int) (ht wd cl : Nat) (fn : Bool) (r c : Int) (h1 : -1000 ≤ r ∧ r ≤ 1000) (h2 : -1000 ≤ c ∧ c ≤ 1000) (h3 : 1 ≤ ht ∧ ht ≤ 32) (h4 : 1 ≤ wd ∧ wd ≤ 32) (h5 : -16 ≤ tp ∧ tp ≤ 31) (h6 : -16 ≤ lf ∧ lf ≤ 31) (h7 : kd ≤ 3) : Met lM yX2_covers wsX2_covers rmX2_covers (ro G [.ref h, .int (iI (r)), .int (iI (c))] [(h, .inr (2, [.int (iI (((kd : Nat) : Int))), .int (iI (tp)), .int (iI (lf)), .int (iI (((ht : Nat) : Int))), .int (iI (((wd : Nat) : Int))), .int (iI (((cl : Nat) : Int))), .int (iI (b2i fn))]))]) (roQ (.int (iI (b2i (decide (covP kd tp lf ht wd r c)))))) 0 0 (fun _ => False) := by
  refine ro_of (cc := cX2_covers) (maxL := 5) (ret := (some .boolean)) (by decide) rfl (Nat.le_of_ble_eq_true rfl) ?_
  intro pM eM sM mM bM tM cM hx hb hr hts hown hlocks hml hG hP ls hl
  have hown : sM.vm.findClass RX2 = some mM.cls := hown
  have hl : lv_has ls 5 [(0, .ref h), (1, .int (iI (r))), (2, .int (iI (c)))] := hl
  refine lv_iload_n hx hb dX2_covers_0 rfl (lv_at hl 1 rfl) ?_
  refine lv_aload_n hx hb dX2_covers_1 rfl (lv_at hl 0 rfl) ?_
  refine va_get (D := G.1) (ci := 2) (v := .int (iI (tp))) (C := RX2) (T := TX2) (N := 7) hx hb hts inX2_X2_covers hown hG.1 hP 0 rfl rfl 1 (by decide) (hts (.fieldLink RX2 15 "InkOverInk$Shape" "row" "I") (by decide +kernel)) (fun _ h9 => h9) rfl dX2_covers_2 ?_
  refine k_isub (a := r) (b := tp) hx hb dX2_covers_5 ?_
  refine lv_istore_n (lv' := [(3, .int (iI (r - tp))), (0, .ref h), (1, .int (iI (r))), (2, .int (iI (c)))]) hx hb dX2_covers_6 rfl hl (by decide) rfl (fun ls hl => ?_)
  refine lv_iload_n hx hb dX2_covers_7 rfl (lv_at hl 3 rfl) ?_
  refine lv_aload_n hx hb dX2_covers_8 rfl (lv_at hl 1 rfl) ?_
  refine va_get (D := G.1) (ci := 2) (v := .int (iI (lf))) (C := RX2) (T := TX2) (N := 7) hx hb hts inX2_X2_covers hown hG.1 hP 0 rfl rfl 2 (by decide) (hts (.fieldLink RX2 18 "InkOverInk$Shape" "column" "I") (by decide +kernel)) (fun _ h9 => h9) rfl dX2_covers_9 ?_
  refine k_isub (a := c) (b := lf) hx hb dX2_covers_12 ?_
  refine lv_istore (lv' := [(4, .int (iI (c - lf))), (3, .int (iI (r - tp))), (0, .ref h), (1, .int (iI (r))), (2, .int (iI (c)))]) hx hb dX2_covers_13 hl (by decide) rfl (fun ls hl => ?_)
  refine lv_iload_n hx hb dX2_covers_15 rfl (lv_at hl 1 rfl) ?_
  refine lv_iconst (v := iI (0)) hx hb dX2_covers_16 rfl ?_
  refine lv_aload_n hx hb dX2_covers_17 rfl (lv_at hl 2 rfl) ?_
  refine va_get (D := G.1) (ci := 2) (v := .int (iI (((ht : Nat) : Int)))) (C := RX2) (T := TX2) (N := 7) hx hb hts inX2_X2_covers hown hG.1 hP 0 rfl rfl 3 (by decide) (hts (.fieldLink RX2 21 "InkOverInk$Shape" "height" "I") (by decide +kernel)) (fun _ h9 => h9) rfl dX2_covers_18 ?_
  refine lv_iconst (v := iI (1)) hx hb dX2_covers_21 rfl ?_
  refine k_isub (a := ((ht : Nat) : Int)) (b := 1) hx hb dX2_covers_22 ?_
  refine k_roN (rest := []) [.int (iI (r - tp)), .int (iI (0)), .int (iI (((ht : Nat) : Int) - 1))] ⟨hx, hb, hml, hown, hts⟩ (c_X4_isWithin lM G (r - tp) 0 (((ht : Nat) : Int) - 1) (by omega) (by omega) (by omega)) ⟨va_cnB 3 hts gX2_covers_X4_isWithin_n37 rfl rfl rfl hG.2.1.2.2.1 (hts (.initialized RX4) (by decide +kernel)) (by decide +kernel) ⟨Nat.le_of_ble_eq_true rfl, Nat.le_of_ble_eq_true rfl⟩, hts (.static yX4_isWithin) (by decide +kernel), trivial⟩ hG (fun k q h => by simp at h) rfl rfl hl.1 (Nat.le_of_ble_eq_true rfl) ⟨Nat.zero_le _, Nat.zero_le _⟩ dX2_covers_23 ?_
  refine k_ifD (P := 0 ≤ (r - tp) ∧ (r - tp) ≤ (((ht : Nat) : Int) - 1)) (tgt := 44) hx hb dX2_covers_26 (by decide) (fun c_26 => ?_) (fun c_26 => ?_)
  · refine lv_iconst (v := iI (0)) hx hb dX2_covers_44 rfl ?_
    exact ro_zret (a := 0) hx hb hr hlocks dX2_covers_45 ((b2i_f (fun q => c_26 ⟨by have := q.1; omega, by have := q.1; omega⟩)).symm)
  · refine lv_iload hx hb dX2_covers_29 (lv_at hl 0 rfl) ?_
    refine lv_iconst (v := iI (0)) hx hb dX2_covers_31 rfl ?_
    refine lv_aload_n hx hb dX2_covers_32 rfl (lv_at hl 2 rfl) ?_
    refine va_get (D := G.1) (ci := 2) (v := .int (iI (((wd : Nat) : Int)))) (C := RX2) (T := TX2) (N := 7) hx hb hts inX2_X2_covers hown hG.1 hP 0 rfl rfl 4 (by decide) (hts (.fieldLink RX2 24 "InkOverInk$Shape" "width" "I") (by decide +kernel)) (fun _ h9 => h9) rfl dX2_covers_33 ?_
    refine lv_iconst (v := iI (1)) hx hb dX2_covers_36 rfl ?_
    refine k_isub (a := ((wd : Nat) : Int)) (b := 1) hx hb dX2_covers_37 ?_
    refine k_roN (rest := []) [.int (iI (c - lf)), .int (iI (0)), .int (iI (((wd : Nat) : Int) - 1))] ⟨hx, hb, hml, hown, hts⟩ (c_X4_isWithin lM G (c - lf) 0 (((wd : Nat) : Int) - 1) (by omega) (by omega) (by omega)) ⟨va_cnB 3 hts gX2_covers_X4_isWithin_n37 rfl rfl rfl hG.2.1.2.2.1 (hts (.initialized RX4) (by decide +kernel)) (by decide +kernel) ⟨Nat.le_of_ble_eq_true rfl, Nat.le_of_ble_eq_true rfl⟩, hts (.static yX4_isWithin) (by decide +kernel), trivial⟩ hG (fun k q h => by simp at h) rfl rfl hl.1 (Nat.le_of_ble_eq_true rfl) ⟨Nat.zero_le _, Nat.zero_le _⟩ dX2_covers_38 ?_
    refine k_ifnD (P := 0 ≤ (c - lf) ∧ (c - lf) ≤ (((wd : Nat) : Int) - 1)) (tgt := 46) hx hb dX2_covers_41 (by decide) (fun c_41 => ?_) (fun c_41 => ?_)
    · refine lv_aload_n hx hb dX2_covers_46 rfl (lv_at hl 2 rfl) ?_
      refine va_get (D := G.1) (ci := 2) (v := .int (iI (((kd : Nat) : Int)))) (C := RX2) (T := TX2) (N := 7) hx hb hts inX2_X2_covers hown hG.1 hP 0 rfl rfl 0 (by decide) (hts (.fieldLink RX2 9 "InkOverInk$Shape" "kind" "I") (by decide +kernel)) (fun _ h9 => h9) rfl dX2_covers_47 ?_
      rcases (show (((kd : Nat) : Int)) = 1 ∨ (((kd : Nat) : Int)) = 2 ∨ (((kd : Nat) : Int)) = 3 ∨ ((((kd : Nat) : Int)) < 1 ∨ 3 < (((kd : Nat) : Int))) by omega) with c_50 | c_50 | c_50 | c_50
      · refine k_tableIn (z := ((kd : Nat) : Int)) (v := 1) (off := 26) (tgt := 76) hx hb c_50 dX2_covers_50 (by decide) (by decide) (by decide) ?_
        refine lv_aload_n hx hb dX2_covers_76 rfl (lv_at hl 2 rfl) ?_
        refine lv_iload_n hx hb dX2_covers_77 rfl (lv_at hl 1 rfl) ?_
        refine lv_iload hx hb dX2_covers_78 (lv_at hl 0 rfl) ?_
        refine k_roV (rest := []) [.int (iI (r - tp)), .int (iI (c - lf))] ⟨hx, hb, hml, hown, hts⟩ (c_X2_isInOval lM G h kd tp lf ht wd cl fn (r - tp) (c - lf) (by omega) (by omega) (by omega) (by omega)) (cwV 2 hts gX2_covers_X2_isInOval rfl rfl rfl (by decide +kernel) ⟨Nat.le_of_ble_eq_true rfl, Nat.le_of_ble_eq_true rfl⟩) hG (va_recv hG.1 hP (ci := 2) (q0 := 0) rfl rfl) (hP.sub (ws' := [(h, .inr (2, [.int (iI (((kd : Nat) : Int))), .int (iI (tp)), .int (iI (lf)), .int (iI (((ht : Nat) : Int))), .int (iI (((wd : Nat) : Int))), .int (iI (((cl : Nat) : Int))), .int (iI (b2i fn))]))]) [0] rfl) rfl rfl hl.1 (Nat.le_of_ble_eq_true rfl) ⟨Nat.zero_le _, Nat.zero_le _⟩ dX2_covers_80 ?_
        exact ro_zret (a := b2i (decide (ovalP ht wd (r - tp) (c - lf)))) hx hb hr hlocks dX2_covers_83 (by congr 1; exact decide_eq_decide.mpr ⟨fun q => ⟨c_26, c_41, fun _ => q, fun q2 => by omega, fun q2 => by omega⟩, fun q => q.2.2.1 (by omega)⟩)
      · refine k_tableIn (z := ((kd : Nat) : Int)) (v := 2) (off := 34) (tgt := 84) hx hb c_50 dX2_covers_50 (by decide) (by decide) (by decide) ?_
        have b1 := mul_bd (x := r - tp) (y := (wd : Int)) (a := 32) (b := 32) (by omega) (by omega) (by omega)
        have b2 := mul_bd (x := c - lf) (y := (ht : Int)) (a := 32) (b := 32) (by omega) (by omega) (by omega)
        refine lv_iload_n hx hb dX2_covers_84 rfl (lv_at hl 1 rfl) ?_
        refine lv_aload_n hx hb dX2_covers_85 rfl (lv_at hl 2 rfl) ?_
        refine va_get (D := G.1) (ci := 2) (v := .int (iI (((wd : Nat) : Int)))) (C := RX2) (T := TX2) (N := 7) hx hb hts inX2_X2_covers hown hG.1 hP 0 rfl rfl 4 (by decide) (hts (.fieldLink RX2 24 "InkOverInk$Shape" "width" "I") (by decide +kernel)) (fun _ h9 => h9) rfl dX2_covers_86 ?_
        refine k_imul (a := r - tp) (b := ((wd : Nat) : Int)) hx hb dX2_covers_89 ?_
        refine lv_iload hx hb dX2_covers_90 (lv_at hl 0 rfl) ?_
        refine lv_aload_n hx hb dX2_covers_92 rfl (lv_at hl 2 rfl) ?_
        refine va_get (D := G.1) (ci := 2) (v := .int (iI (((ht : Nat) : Int)))) (C := RX2) (T := TX2) (N := 7) hx hb hts inX2_X2_covers hown hG.1 hP 0 rfl rfl 3 (by decide) (hts (.fieldLink RX2 21 "InkOverInk$Shape" "height" "I") (by decide +kernel)) (fun _ h9 => h9) rfl dX2_covers_93 ?_
        refine k_imul (a := c - lf) (b := ((ht : Nat) : Int)) hx hb dX2_covers_96 ?_
        refine k_icmp_gt (a := (r - tp) * ((wd : Nat) : Int)) (b := (c - lf) * ((ht : Nat) : Int)) (tgt := 104) hx hb (by omega) (by omega) dX2_covers_97 (by decide) (fun c_97 => ?_) (fun c_97 => ?_)
        · refine lv_iconst (v := iI (0)) hx hb dX2_covers_104 rfl ?_
          exact ro_zret (a := 0) hx hb hr hlocks dX2_covers_105 ((b2i_f (P := covP kd tp lf ht wd r c) (fun q => by have q3 := q.2.2.2.1 (by omega); omega)).symm)
        · refine lv_iconst (v := iI (1)) hx hb dX2_covers_100 rfl ?_
          refine lv_goto (tgt := 105) hx hb dX2_covers_101 (by decide) ?_
          exact ro_zret (a := 1) hx hb hr hlocks dX2_covers_105 ((b2i_t (P := covP kd tp lf ht wd r c) ⟨c_26, c_41, fun q2 => by omega, fun _ => by omega, fun q2 => by omega⟩).symm)
      · refine k_tableIn (z := ((kd : Nat) : Int)) (v := 3) (off := 56) (tgt := 106) hx hb c_50 dX2_covers_50 (by decide) (by decide) (by decide) ?_
        refine lv_iload_n hx hb dX2_covers_106 rfl (lv_at hl 1 rfl) ?_
        refine k_if_eq (a := r - tp) (tgt := 136) hx hb (by omega) dX2_covers_107 (by decide) (fun c_107 => ?_) (fun c_107 => ?_)
        · refine lv_iconst (v := iI (1)) hx hb dX2_covers_136 rfl ?_
          refine lv_goto (tgt := 141) hx hb dX2_covers_137 (by decide) ?_
          exact ro_zret (a := 1) hx hb hr hlocks dX2_covers_141 ((b2i_t (P := covP kd tp lf ht wd r c) ⟨c_26, c_41, fun q2 => by omega, fun q2 => by omega, fun _ => by omega⟩).symm)
        · refine lv_iload_n hx hb dX2_covers_110 rfl (lv_at hl 1 rfl) ?_
          refine lv_aload_n hx hb dX2_covers_111 rfl (lv_at hl 2 rfl) ?_
          refine va_get (D := G.1) (ci := 2) (v := .int (iI (((ht : Nat) : Int)))) (C := RX2) (T := TX2) (N := 7) hx hb hts inX2_X2_covers hown hG.1 hP 0 rfl rfl 3 (by decide) (hts (.fieldLink RX2 21 "InkOverInk$Shape" "height" "I") (by decide +kernel)) (fun _ h9 => h9) rfl dX2_covers_112 ?_
          refine lv_iconst (v := iI (1)) hx hb dX2_covers_115 rfl ?_
          refine k_isub (a := ((ht : Nat) : Int)) (b := 1) hx hb dX2_covers_116 ?_
          refine k_icmp_eq (a := r - tp) (b := ((ht : Nat) : Int) - 1) (tgt := 136) hx hb (by omega) (by omega) dX2_covers_117 (by decide) (fun c_117 => ?_) (fun c_117 => ?_)
          · refine lv_iconst (v := iI (1)) hx hb dX2_covers_136 rfl ?_
            refine lv_goto (tgt := 141) hx hb dX2_covers_137 (by decide) ?_
            exact ro_zret (a := 1) hx hb hr hlocks dX2_covers_141 ((b2i_t (P := covP kd tp lf ht wd r c) ⟨c_26, c_41, fun q2 => by omega, fun q2 => by omega, fun _ => by omega⟩).symm)
          · refine lv_iload hx hb dX2_covers_120 (lv_at hl 0 rfl) ?_
            refine k_if_eq (a := c - lf) (tgt := 136) hx hb (by omega) dX2_covers_122 (by decide) (fun c_122 => ?_) (fun c_122 => ?_)
            · refine lv_iconst (v := iI (1)) hx hb dX2_covers_136 rfl ?_
              refine lv_goto (tgt := 141) hx hb dX2_covers_137 (by decide) ?_
              exact ro_zret (a := 1) hx hb hr hlocks dX2_covers_141 ((b2i_t (P := covP kd tp lf ht wd r c) ⟨c_26, c_41, fun q2 => by omega, fun q2 => by omega, fun _ => by omega⟩).symm)
            · refine lv_iload hx hb dX2_covers_125 (lv_at hl 0 rfl) ?_
              refine lv_aload_n hx hb dX2_covers_127 rfl (lv_at hl 2 rfl) ?_
              refine va_get (D := G.1) (ci := 2) (v := .int (iI (((wd : Nat) : Int)))) (C := RX2) (T := TX2) (N := 7) hx hb hts inX2_X2_covers hown hG.1 hP 0 rfl rfl 4 (by decide) (hts (.fieldLink RX2 24 "InkOverInk$Shape" "width" "I") (by decide +kernel)) (fun _ h9 => h9) rfl dX2_covers_128 ?_
              refine lv_iconst (v := iI (1)) hx hb dX2_covers_131 rfl ?_
              refine k_isub (a := ((wd : Nat) : Int)) (b := 1) hx hb dX2_covers_132 ?_
              refine k_icmp_ne (a := c - lf) (b := ((wd : Nat) : Int) - 1) (tgt := 140) hx hb (by omega) (by omega) dX2_covers_133 (by decide) (fun c_133 => ?_) (fun c_133 => ?_)
              · refine lv_iconst (v := iI (0)) hx hb dX2_covers_140 rfl ?_
                exact ro_zret (a := 0) hx hb hr hlocks dX2_covers_141 ((b2i_f (P := covP kd tp lf ht wd r c) (fun q => by have q3 := q.2.2.2.2 (by omega); omega)).symm)
              · refine lv_iconst (v := iI (1)) hx hb dX2_covers_136 rfl ?_
                refine lv_goto (tgt := 141) hx hb dX2_covers_137 (by decide) ?_
                exact ro_zret (a := 1) hx hb hr hlocks dX2_covers_141 ((b2i_t (P := covP kd tp lf ht wd r c) ⟨c_26, c_41, fun q2 => by omega, fun q2 => by omega, fun _ => by omega⟩).symm)
      · refine k_tableOut (z := ((kd : Nat) : Int)) (tgt := 142) hx hb (by omega) c_50 dX2_covers_50 (by decide) ?_
        refine lv_iconst (v := iI (1)) hx hb dX2_covers_142 rfl ?_
        exact ro_zret (a := 1) hx hb hr hlocks dX2_covers_143 ((b2i_t (P := covP kd tp lf ht wd r c) ⟨c_26, c_41, fun q2 => by omega, fun q2 => by omega, fun q2 => by omega⟩).symm)
    · refine lv_iconst (v := iI (0)) hx hb dX2_covers_44 rfl ?_
      exact ro_zret (a := 0) hx hb hr hlocks dX2_covers_45 ((b2i_f (fun q => c_41 ⟨by have := q.2.1; omega, by have := q.2.1; omega⟩)).symm)

def rmX3_hasCell : Room := { frames := 1, cells := 0, slots := 0, locals := 22 }
set_option maxRecDepth 20000 in
theorem inX3_X3_hasCell : ∀ w ∈ wsX30, w ∈ wsX3_hasCell := by decide +kernel
set_option maxHeartbeats 4000000 in
set_option maxRecDepth 100000 in
theorem c_X3_hasCell (lM : Launch) (G : GG) (t rw cm tr : Nat) (cr : Int) (ly md aw ad ac ao ax : Nat) (r c : Int) (h1 : -2147483648 ≤ r ∧ r < 2147483648) (h2 : -2147483648 ≤ c ∧ c < 2147483648) (h3 : rw ≤ 16) (h4 : cm ≤ 16) : Met lM yX3_hasCell wsX3_hasCell rmX3_hasCell (ro G [.ref t, .int (iI (r)), .int (iI (c))] [(t, .inr (3, [.int (iI (((rw : Nat) : Int))), .int (iI (((cm : Nat) : Int))), .int (iI (((tr : Nat) : Int))), .int (iI (cr)), .int (iI (((ly : Nat) : Int))), .int (iI (((md : Nat) : Int))), .ref aw, .ref ad, .ref ac, .ref ao, .ref ax]))]) (roQ (.int (iI (b2i (decide ((0 ≤ r ∧ r ≤ (rw : Int) - 1) ∧ (0 ≤ c ∧ c ≤ (cm : Int) - 1))))))) 0 0 (fun _ => False) := by
  refine ro_of (cc := cX3_hasCell) (maxL := 3) (ret := (some .boolean)) (by decide) rfl (Nat.le_of_ble_eq_true rfl) ?_
  intro pM eM sM mM bM tM cM hx hb hr hts hown hlocks hml hG hP ls hl
  have hown : sM.vm.findClass RX3 = some mM.cls := hown
  have hl : lv_has ls 3 [(0, .ref t), (1, .int (iI (r))), (2, .int (iI (c)))] := hl
  refine lv_iload_n hx hb dX3_hasCell_0 rfl (lv_at hl 1 rfl) ?_
  refine lv_iconst (v := iI (0)) hx hb dX3_hasCell_1 rfl ?_
  refine lv_aload_n hx hb dX3_hasCell_2 rfl (lv_at hl 0 rfl) ?_
  refine va_get (D := G.1) (ci := 3) (v := .int (iI (((rw : Nat) : Int)))) (C := RX3) (T := TX3) (N := 11) hx hb hts inX3_X3_hasCell hown hG.1 hP 0 rfl rfl 0 (by decide) (hts (.fieldLink RX3 9 "InkOverInk$Sheet" "rows" "I") (by decide +kernel)) (fun _ h9 => h9) rfl dX3_hasCell_3 ?_
  refine lv_iconst (v := iI (1)) hx hb dX3_hasCell_6 rfl ?_
  refine k_isub (a := ((rw : Nat) : Int)) (b := 1) hx hb dX3_hasCell_7 ?_
  refine k_roN (rest := []) [.int (iI (r)), .int (iI (0)), .int (iI (((rw : Nat) : Int) - 1))] ⟨hx, hb, hml, hown, hts⟩ (c_X4_isWithin lM G r 0 (((rw : Nat) : Int) - 1) (by omega) (by omega) (by omega)) ⟨va_cnB 3 hts gX3_hasCell_X4_isWithin_n55 rfl rfl rfl hG.2.1.1 (hts (.initialized RX4) (by decide +kernel)) (by decide +kernel) ⟨Nat.le_of_ble_eq_true rfl, Nat.le_of_ble_eq_true rfl⟩, hts (.static yX4_isWithin) (by decide +kernel), trivial⟩ hG (fun k q h => by simp at h) rfl rfl hl.1 (Nat.le_of_ble_eq_true rfl) ⟨Nat.zero_le _, Nat.zero_le _⟩ dX3_hasCell_8 ?_
  refine k_ifD (P := 0 ≤ r ∧ r ≤ (((rw : Nat) : Int) - 1)) (tgt := 32) hx hb dX3_hasCell_11 (by decide) (fun c_11 => ?_) (fun c_11 => ?_)
  · refine lv_iconst (v := iI (0)) hx hb dX3_hasCell_32 rfl ?_
    exact ro_zret (a := 0) hx hb hr hlocks dX3_hasCell_33 ((b2i_f (by omega)).symm)
  · refine lv_iload_n hx hb dX3_hasCell_14 rfl (lv_at hl 2 rfl) ?_
    refine lv_iconst (v := iI (0)) hx hb dX3_hasCell_15 rfl ?_
    refine lv_aload_n hx hb dX3_hasCell_16 rfl (lv_at hl 0 rfl) ?_
    refine va_get (D := G.1) (ci := 3) (v := .int (iI (((cm : Nat) : Int)))) (C := RX3) (T := TX3) (N := 11) hx hb hts inX3_X3_hasCell hown hG.1 hP 0 rfl rfl 1 (by decide) (hts (.fieldLink RX3 15 "InkOverInk$Sheet" "columns" "I") (by decide +kernel)) (fun _ h9 => h9) rfl dX3_hasCell_17 ?_
    refine lv_iconst (v := iI (1)) hx hb dX3_hasCell_20 rfl ?_
    refine k_isub (a := ((cm : Nat) : Int)) (b := 1) hx hb dX3_hasCell_21 ?_
    refine k_roN (rest := []) [.int (iI (c)), .int (iI (0)), .int (iI (((cm : Nat) : Int) - 1))] ⟨hx, hb, hml, hown, hts⟩ (c_X4_isWithin lM G c 0 (((cm : Nat) : Int) - 1) (by omega) (by omega) (by omega)) ⟨va_cnB 3 hts gX3_hasCell_X4_isWithin_n55 rfl rfl rfl hG.2.1.1 (hts (.initialized RX4) (by decide +kernel)) (by decide +kernel) ⟨Nat.le_of_ble_eq_true rfl, Nat.le_of_ble_eq_true rfl⟩, hts (.static yX4_isWithin) (by decide +kernel), trivial⟩ hG (fun k q h => by simp at h) rfl rfl hl.1 (Nat.le_of_ble_eq_true rfl) ⟨Nat.zero_le _, Nat.zero_le _⟩ dX3_hasCell_22 ?_
    refine k_ifD (P := 0 ≤ c ∧ c ≤ (((cm : Nat) : Int) - 1)) (tgt := 32) hx hb dX3_hasCell_25 (by decide) (fun c_25 => ?_) (fun c_25 => ?_)
    · refine lv_iconst (v := iI (0)) hx hb dX3_hasCell_32 rfl ?_
      exact ro_zret (a := 0) hx hb hr hlocks dX3_hasCell_33 ((b2i_f (by omega)).symm)
    · refine lv_iconst (v := iI (1)) hx hb dX3_hasCell_28 rfl ?_
      refine lv_goto (tgt := 33) hx hb dX3_hasCell_29 (by decide) ?_
      exact ro_zret (a := 1) hx hb hr hlocks dX3_hasCell_33 ((b2i_t (by omega)).symm)

def rmX3_numberAt : Room := { frames := 1, cells := 0, slots := 0, locals := 22 }
set_option maxRecDepth 20000 in
theorem inX3_X3_numberAt : ∀ w ∈ wsX30, w ∈ wsX3_numberAt := by decide +kernel
set_option maxHeartbeats 4000000 in
set_option maxRecDepth 100000 in
theorem c_X3_numberAt (lM : Launch) (G : GG) (t rw cm tr : Nat) (cr : Int) (ly md aw ad ac ao ax : Nat) (OR : Nat → Nat) (n : Int) (h1 : -2147483648 ≤ n ∧ n < 2147483648) : Met lM yX3_numberAt wsX3_numberAt rmX3_numberAt (ro G [.ref t, .int (iI (n))] [(t, .inr (3, [.int (iI (((rw : Nat) : Int))), .int (iI (((cm : Nat) : Int))), .int (iI (((tr : Nat) : Int))), .int (iI (cr)), .int (iI (((ly : Nat) : Int))), .int (iI (((md : Nat) : Int))), .ref aw, .ref ad, .ref ac, .ref ao, .ref ax])), (ao, .inl (G.2 0, 30, .inl (fun iX => iI ((OR iX : Nat) : Int))))]) (roQ (.int (iI ((if 0 ≤ n ∧ n ≤ 29 then (OR n.toNat : Int) else -1))))) 0 0 (fun _ => False) := by
  refine ro_of (cc := cX3_numberAt) (maxL := 2) (ret := (some .int)) (by decide) rfl (Nat.le_of_ble_eq_true rfl) ?_
  intro pM eM sM mM bM tM cM hx hb hr hts hown hlocks hml hG hP ls hl
  have hown : sM.vm.findClass RX3 = some mM.cls := hown
  have hl : lv_has ls 2 [(0, .ref t), (1, .int (iI (n)))] := hl
  refine lv_iload_n hx hb dX3_numberAt_0 rfl (lv_at hl 1 rfl) ?_
  refine lv_iconst (v := iI (0)) hx hb dX3_numberAt_1 rfl ?_
  refine lv_bipush (v := iI (29)) hx hb dX3_numberAt_2 (by decide) ?_
  refine k_roN (rest := []) [.int (iI (n)), .int (iI (0)), .int (iI (29))] ⟨hx, hb, hml, hown, hts⟩ (c_X4_isWithin lM G n 0 29 (by omega) (by omega) (by omega)) ⟨va_cnB 3 hts gX3_numberAt_X4_isWithin_n55 rfl rfl rfl hG.2.1.1 (hts (.initialized RX4) (by decide +kernel)) (by decide +kernel) ⟨Nat.le_of_ble_eq_true rfl, Nat.le_of_ble_eq_true rfl⟩, hts (.static yX4_isWithin) (by decide +kernel), trivial⟩ hG (fun k q h => by simp at h) rfl rfl hl.1 (Nat.le_of_ble_eq_true rfl) ⟨Nat.zero_le _, Nat.zero_le _⟩ dX3_numberAt_4 ?_
  refine k_ifD (P := 0 ≤ n ∧ n ≤ 29) (tgt := 19) hx hb dX3_numberAt_7 (by decide) (fun c_7 => ?_) (fun c_7 => ?_)
  · refine lv_iconst (v := iI (-1)) hx hb dX3_numberAt_19 rfl ?_
    exact ro_iret (a := (-1)) hx hb hr hlocks dX3_numberAt_20 (by rw [if_neg (by omega)])
  · obtain ⟨k, rfl⟩ : ∃ k : Nat, n = (k : Int) := ⟨(n).toNat, by omega⟩
    refine lv_aload_n hx hb dX3_numberAt_10 rfl (lv_at hl 0 rfl) ?_
    refine va_get (D := G.1) (ci := 3) (v := .ref ao) (C := RX3) (T := TX3) (N := 11) hx hb hts inX3_X3_numberAt hown hG.1 hP 0 rfl rfl 9 (by decide) (hts (.fieldLink RX3 28 "InkOverInk$Sheet" "order" "[I") (by decide +kernel)) (fun _ h9 => h9) rfl dX3_numberAt_11 ?_
    refine lv_iload_n hx hb dX3_numberAt_14 rfl (lv_at hl 1 rfl) ?_
    refine k_ialdN (F := (fun iX => ((OR iX : Nat) : Int))) (z := k) hx hb hG hP 1 rfl (by omega) (by decide) dX3_numberAt_15 ?_
    refine lv_goto (tgt := 20) hx hb dX3_numberAt_16 (by decide) ?_
    exact ro_iret (a := ((OR k : Nat) : Int)) hx hb hr hlocks dX3_numberAt_20 (by rw [if_pos (by omega)]; rfl)

def rmX3_find : Room := { frames := 1, cells := 0, slots := 0, locals := 22 }
set_option maxRecDepth 20000 in
theorem inX3_X3_find : ∀ w ∈ wsX30, w ∈ wsX3_find := by decide +kernel
set_option maxHeartbeats 4000000 in
set_option maxRecDepth 100000 in
theorem c_X3_find (lM : Launch) (G : GG) (t rw cm tr : Nat) (cr : Int) (ly md aw ad ac ao ax : Nat) (SH : Nat → Option Nat) (n : Int) (h1 : -2147483648 ≤ n ∧ n < 2147483648) : Met lM yX3_find wsX3_find rmX3_find (ro G [.ref t, .int (iI (n))] [(t, .inr (3, [.int (iI (((rw : Nat) : Int))), .int (iI (((cm : Nat) : Int))), .int (iI (((tr : Nat) : Int))), .int (iI (cr)), .int (iI (((ly : Nat) : Int))), .int (iI (((md : Nat) : Int))), .ref aw, .ref ad, .ref ac, .ref ao, .ref ax])), (ax, .inl (G.2 2, 30, .inr (.inr (.inr (.inr SH)))))]) (roQ (va_rf (if 0 ≤ n ∧ n ≤ 29 then SH n.toNat else none))) 0 0 (fun _ => False) := by
  refine ro_of (cc := cX3_find) (maxL := 2) (ret := (some (.object "InkOverInk$Shape"))) (by decide) rfl (Nat.le_of_ble_eq_true rfl) ?_
  intro pM eM sM mM bM tM cM hx hb hr hts hown hlocks hml hG hP ls hl
  have hown : sM.vm.findClass RX3 = some mM.cls := hown
  have hl : lv_has ls 2 [(0, .ref t), (1, .int (iI (n)))] := hl
  refine lv_iload_n hx hb dX3_find_0 rfl (lv_at hl 1 rfl) ?_
  refine lv_iconst (v := iI (0)) hx hb dX3_find_1 rfl ?_
  refine lv_bipush (v := iI (29)) hx hb dX3_find_2 (by decide) ?_
  refine k_roN (rest := []) [.int (iI (n)), .int (iI (0)), .int (iI (29))] ⟨hx, hb, hml, hown, hts⟩ (c_X4_isWithin lM G n 0 29 (by omega) (by omega) (by omega)) ⟨va_cnB 3 hts gX3_find_X4_isWithin_n55 rfl rfl rfl hG.2.1.1 (hts (.initialized RX4) (by decide +kernel)) (by decide +kernel) ⟨Nat.le_of_ble_eq_true rfl, Nat.le_of_ble_eq_true rfl⟩, hts (.static yX4_isWithin) (by decide +kernel), trivial⟩ hG (fun k q h => by simp at h) rfl rfl hl.1 (Nat.le_of_ble_eq_true rfl) ⟨Nat.zero_le _, Nat.zero_le _⟩ dX3_find_4 ?_
  refine k_ifD (P := 0 ≤ n ∧ n ≤ 29) (tgt := 19) hx hb dX3_find_7 (by decide) (fun c_7 => ?_) (fun c_7 => ?_)
  · refine lv_null hx hb dX3_find_19 ?_
    exact ro_aret hx hb hr hlocks dX3_find_20 (Or.inl rfl) (by rw [if_neg (by omega)]; rfl)
  · obtain ⟨k, rfl⟩ : ∃ k : Nat, n = (k : Int) := ⟨(n).toNat, by omega⟩
    refine lv_aload_n hx hb dX3_find_10 rfl (lv_at hl 0 rfl) ?_
    refine va_get (D := G.1) (ci := 3) (v := .ref ax) (C := RX3) (T := TX3) (N := 11) hx hb hts inX3_X3_find hown hG.1 hP 0 rfl rfl 10 (by decide) (hts (.fieldLink RX3 33 "InkOverInk$Sheet" "shapes" "[LInkOverInk$Shape;") (by decide +kernel)) (fun _ h9 => h9) rfl dX3_find_11 ?_
    refine lv_iload_n hx hb dX3_find_14 rfl (lv_at hl 1 rfl) ?_
    refine k_aldqN (F := SH) (z := k) hx hb hG hP 1 2 rfl rfl (by omega) (by decide) dX3_find_15 ?_
    refine lv_goto (tgt := 20) hx hb dX3_find_16 (by decide) ?_
    exact ro_aret hx hb hr hlocks dX3_find_20 (va_rf_or _) (by rw [if_pos (by omega)]; rfl)

def rmX3_placeOf : Room := { frames := 2, cells := 0, slots := 0, locals := 43 }
set_option maxRecDepth 20000 in
theorem inX3_X3_placeOf : ∀ w ∈ wsX30, w ∈ wsX3_placeOf := by decide +kernel
set_option maxHeartbeats 4000000 in
set_option maxRecDepth 100000 in
theorem c_X3_placeOf (lM : Launch) (G : GG) (t rw cm tr : Nat) (cr : Int) (ly md aw ad ac ao ax : Nat) (OR : Nat → Nat) (n : Int) (h1 : -2147483648 ≤ n ∧ n < 2147483648) (h2 : ly ≤ 30) (h3 : ∀ k, OR k < 30) : Met lM yX3_placeOf wsX3_placeOf rmX3_placeOf (ro G [.ref t, .int (iI (n))] [(t, .inr (3, [.int (iI (((rw : Nat) : Int))), .int (iI (((cm : Nat) : Int))), .int (iI (((tr : Nat) : Int))), .int (iI (cr)), .int (iI (((ly : Nat) : Int))), .int (iI (((md : Nat) : Int))), .ref aw, .ref ad, .ref ac, .ref ao, .ref ax])), (ao, .inl (G.2 0, 30, .inl (fun iX => iI ((OR iX : Nat) : Int))))]) (roQ (.int (iI (plc OR ly n ly)))) 0 0 (fun _ => False) := by
  refine ro_of (cc := cX3_placeOf) (maxL := 3) (ret := (some .int)) (by decide) rfl (Nat.le_of_ble_eq_true rfl) ?_
  intro pM eM sM mM bM tM cM hx hb hr hts hown hlocks hml hG hP ls hl
  have hown : sM.vm.findClass RX3 = some mM.cls := hown
  have hl : lv_has ls 3 [(0, .ref t), (1, .int (iI (n)))] := hl
  refine lv_iconst (v := iI (0)) hx hb dX3_placeOf_0 rfl ?_
  refine lv_istore_n (lv' := [(2, .int (iI (0))), (0, .ref t), (1, .int (iI (n)))]) hx hb dX3_placeOf_1 rfl hl (by decide) rfl (fun ls hl => ?_)
  have loop_2 : ∀ (n_2 : Nat) (i : Nat), (i ≤ ly) → (plc OR ly n (ly - i) = plc OR ly n ly) → ly + 1 - i ≤ n_2 → ∀ ls : Array Slot, lv_has ls 3 [(0, .ref t), (1, .int (iI (n))), (2, .int (iI (((i : Nat) : Int))))] → W pM lM eM rmX3_placeOf sM mM ([.ref t, .int (iI (n))] : List Value).toArray bM tM cM sM.heap [] 0 0 (MQ bM (roQ (.int (iI (plc OR ly n ly)))) ([.ref t, .int (iI (n))] : List Value).toArray sM 0 0 (fun _ => False)) (F0 mM 2 ls []) := by
    intro n_2
    induction n_2 with
    | zero =>
      intro i hi hxx hm_2 ls hl
      exact absurd hm_2 (by omega)
    | succ n_2 ih_2 =>
      intro i hi hxx hm_2 ls hl
      refine lv_iload_n hx hb dX3_placeOf_2 rfl (lv_at hl 2 rfl) ?_
      refine lv_aload_n hx hb dX3_placeOf_3 rfl (lv_at hl 0 rfl) ?_
      refine va_get (D := G.1) (ci := 3) (v := .int (iI (((ly : Nat) : Int)))) (C := RX3) (T := TX3) (N := 11) hx hb hts inX3_X3_placeOf hown hG.1 hP 0 rfl rfl 4 (by decide) (hts (.fieldLink RX3 43 "InkOverInk$Sheet" "lying" "I") (by decide +kernel)) (fun _ h9 => h9) rfl dX3_placeOf_4 ?_
      refine k_icmp_ge (a := ((i : Nat) : Int)) (b := ((ly : Nat) : Int)) (tgt := 27) hx hb (by omega) (by omega) dX3_placeOf_7 (by decide) (fun c_7 => ?_) (fun c_7 => ?_)
      · refine lv_iconst (v := iI (-1)) hx hb dX3_placeOf_27 rfl ?_
        exact ro_iret (a := (-1)) hx hb hr hlocks dX3_placeOf_28 (by rw [← hxx, show ly - i = 0 by omega]; rfl)
      · refine lv_aload_n hx hb dX3_placeOf_10 rfl (lv_at hl 0 rfl) ?_
        refine lv_iload_n hx hb dX3_placeOf_11 rfl (lv_at hl 2 rfl) ?_
        refine k_roV (rest := []) [.int (iI (((i : Nat) : Int)))] ⟨hx, hb, hml, hown, hts⟩ (c_X3_numberAt lM G t rw cm tr cr ly md aw ad ac ao ax OR ((i : Nat) : Int) (by omega)) (cwV 1 hts gX3_placeOf_X3_numberAt rfl rfl rfl (by decide +kernel) ⟨Nat.le_of_ble_eq_true rfl, Nat.le_of_ble_eq_true rfl⟩) hG (va_recv hG.1 hP (ci := 3) (q0 := 0) rfl rfl) (hP.sub (ws' := [(t, .inr (3, [.int (iI (((rw : Nat) : Int))), .int (iI (((cm : Nat) : Int))), .int (iI (((tr : Nat) : Int))), .int (iI (cr)), .int (iI (((ly : Nat) : Int))), .int (iI (((md : Nat) : Int))), .ref aw, .ref ad, .ref ac, .ref ao, .ref ax])), (ao, .inl (G.2 0, 30, .inl (fun iX => iI ((OR iX : Nat) : Int))))]) [0, 1] rfl) rfl rfl hl.1 (Nat.le_of_ble_eq_true rfl) ⟨Nat.zero_le _, Nat.zero_le _⟩ dX3_placeOf_12 ?_
        have eo : (if 0 ≤ ((i : Nat) : Int) ∧ ((i : Nat) : Int) ≤ 29 then (OR ((i : Nat) : Int).toNat : Int) else -1) = ((OR i : Nat) : Int) := by rw [if_pos (by omega)]; rfl
        rw [eo]
        have ho := h3 i
        refine lv_iload_n hx hb dX3_placeOf_15 rfl (lv_at hl 1 rfl) ?_
        refine k_icmp_ne (a := ((OR i : Nat) : Int)) (b := n) (tgt := 21) hx hb (by omega) (by omega) dX3_placeOf_16 (by decide) (fun c_16 => ?_) (fun c_16 => ?_)
        · refine k_iincN (n := 1) (lv' := [(2, .int (iI (((i + 1 : Nat) : Int)))), (0, .ref t), (1, .int (iI (n)))]) hx hb dX3_placeOf_21 hl (k := 2) rfl (by decide) rfl (fun ls hl => ?_)
          refine lv_goto (tgt := 2) hx hb dX3_placeOf_24 (by decide) ?_
          exact ih_2 (i + 1) (by omega) (by rw [← hxx, show ly - i = (ly - (i + 1)) + 1 by omega, plc, show ly - (ly - (i + 1) + 1) = i by omega, if_neg c_16]) (by omega) ls (lv_sub hl [1, 2, 0] rfl)
        · refine lv_iload_n hx hb dX3_placeOf_19 rfl (lv_at hl 2 rfl) ?_
          exact ro_iret (a := ((i : Nat) : Int)) hx hb hr hlocks dX3_placeOf_20 (by rw [← hxx, show ly - i = (ly - (i + 1)) + 1 by omega, plc, show ly - (ly - (i + 1) + 1) = i by omega, if_pos c_16])
  exact loop_2 (ly + 1 - 0) 0 (by omega) rfl (Nat.le_refl _) ls (lv_sub hl [1, 2, 0] rfl)

def rmX3_darkness : Room := { frames := 1, cells := 0, slots := 0, locals := 21 }
set_option maxRecDepth 20000 in
theorem inX3_X3_darkness : ∀ w ∈ wsX30, w ∈ wsX3_darkness := by decide +kernel
set_option maxHeartbeats 4000000 in
set_option maxRecDepth 100000 in
theorem c_X3_darkness (lM : Launch) (G : GG) (t rw cm tr : Nat) (cr : Int) (ly md aw ad ac ao ax : Nat) (WT : Nat → Nat) (cl : Nat) (h1 : cl < 65536) : Met lM yX3_darkness wsX3_darkness rmX3_darkness (ro G [.ref t, .int (iI (((cl : Nat) : Int)))] [(t, .inr (3, [.int (iI (((rw : Nat) : Int))), .int (iI (((cm : Nat) : Int))), .int (iI (((tr : Nat) : Int))), .int (iI (cr)), .int (iI (((ly : Nat) : Int))), .int (iI (((md : Nat) : Int))), .ref aw, .ref ad, .ref ac, .ref ao, .ref ax])), (aw, .inl (G.2 0, 4, .inl (fun iX => iI ((WT iX : Nat) : Int))))]) (roQ (.int (iI (((dark WT cl 4 : Nat) : Int))))) 0 0 (fun _ => False) := by
  refine ro_of (cc := cX3_darkness) (maxL := 4) (ret := (some .int)) (by decide) rfl (Nat.le_of_ble_eq_true rfl) ?_
  intro pM eM sM mM bM tM cM hx hb hr hts hown hlocks hml hG hP ls hl
  have hown : sM.vm.findClass RX3 = some mM.cls := hown
  have hl : lv_has ls 4 [(0, .ref t), (1, .int (iI (((cl : Nat) : Int))))] := hl
  refine lv_iconst (v := iI (0)) hx hb dX3_darkness_0 rfl ?_
  refine lv_istore_n (lv' := [(2, .int (iI (0))), (0, .ref t), (1, .int (iI (((cl : Nat) : Int))))]) hx hb dX3_darkness_1 rfl hl (by decide) rfl (fun ls hl => ?_)
  refine lv_iconst (v := iI (0)) hx hb dX3_darkness_2 rfl ?_
  refine lv_istore_n (lv' := [(3, .int (iI (0))), (2, .int (iI (0))), (0, .ref t), (1, .int (iI (((cl : Nat) : Int))))]) hx hb dX3_darkness_3 rfl hl (by decide) rfl (fun ls hl => ?_)
  have loop_4 : ∀ (n_4 : Nat) (i x : Nat), (i ≤ 4) → (x = dark WT cl i) → 5 - i ≤ n_4 → ∀ ls : Array Slot, lv_has ls 4 [(0, .ref t), (1, .int (iI (((cl : Nat) : Int)))), (2, .int (iI (((x : Nat) : Int)))), (3, .int (iI (((i : Nat) : Int))))] → W pM lM eM rmX3_darkness sM mM ([.ref t, .int (iI (((cl : Nat) : Int)))] : List Value).toArray bM tM cM sM.heap [] 0 0 (MQ bM (roQ (.int (iI (((dark WT cl 4 : Nat) : Int))))) ([.ref t, .int (iI (((cl : Nat) : Int)))] : List Value).toArray sM 0 0 (fun _ => False)) (F0 mM 4 ls []) := by
    intro n_4
    induction n_4 with
    | zero =>
      intro i x hi hxx hm_4 ls hl
      exact absurd hm_4 (by omega)
    | succ n_4 ih_4 =>
      intro i x hi hxx hm_4 ls hl
      refine lv_iload_n hx hb dX3_darkness_4 rfl (lv_at hl 3 rfl) ?_
      refine lv_iconst (v := iI (4)) hx hb dX3_darkness_5 rfl ?_
      refine k_icmp_ge (a := ((i : Nat) : Int)) (b := 4) (tgt := 32) hx hb (by omega) (by omega) dX3_darkness_6 (by decide) (fun c_6 => ?_) (fun c_6 => ?_)
      · refine lv_iload_n hx hb dX3_darkness_32 rfl (lv_at hl 2 rfl) ?_
        exact ro_iret (a := ((x : Nat) : Int)) hx hb hr hlocks dX3_darkness_33 (by have e9 : i = 4 := (by omega); rw [hxx, e9])
      · refine lv_iload_n hx hb dX3_darkness_9 rfl (lv_at hl 1 rfl) ?_
        refine lv_iload_n hx hb dX3_darkness_10 rfl (lv_at hl 3 rfl) ?_
        refine k_roN (rest := []) [.int (iI (((cl : Nat) : Int))), .int (iI (((i : Nat) : Int)))] ⟨hx, hb, hml, hown, hts⟩ (c_X4_hasInk lM G cl i (by omega) (by omega)) ⟨va_cnB 2 hts gX3_darkness_X4_hasInk_n91 rfl rfl rfl hG.2.1.2.2.2.2.1 (hts (.initialized RX4) (by decide +kernel)) (by decide +kernel) ⟨Nat.le_of_ble_eq_true rfl, Nat.le_of_ble_eq_true rfl⟩, hts (.static yX4_hasInk) (by decide +kernel), trivial⟩ hG (fun k q h => by simp at h) rfl rfl hl.1 (Nat.le_of_ble_eq_true rfl) ⟨Nat.zero_le _, Nat.zero_le _⟩ dX3_darkness_11 ?_
        refine k_ifD (P := (cl >>> i) &&& 1 = 1) (tgt := 26) hx hb dX3_darkness_14 (by decide) (fun c_14 => ?_) (fun c_14 => ?_)
        · refine k_iincN (n := 1) (lv' := [(3, .int (iI (((i + 1 : Nat) : Int)))), (0, .ref t), (1, .int (iI (((cl : Nat) : Int)))), (2, .int (iI (((x : Nat) : Int))))]) hx hb dX3_darkness_26 hl (k := 3) rfl (by decide) rfl (fun ls hl => ?_)
          refine lv_goto (tgt := 4) hx hb dX3_darkness_29 (by decide) ?_
          exact ih_4 (i + 1) x (by omega) (by first | (rw [dark, if_pos c_14, hxx]; done) | (rw [dark, if_neg c_14, hxx]; rfl)) (by omega) ls (lv_sub hl [1, 2, 3, 0] rfl)
        · refine lv_iload_n hx hb dX3_darkness_17 rfl (lv_at hl 2 rfl) ?_
          refine lv_aload_n hx hb dX3_darkness_18 rfl (lv_at hl 0 rfl) ?_
          refine va_get (D := G.1) (ci := 3) (v := .ref aw) (C := RX3) (T := TX3) (N := 11) hx hb hts inX3_X3_darkness hown hG.1 hP 0 rfl rfl 6 (by decide) (hts (.fieldLink RX3 18 "InkOverInk$Sheet" "weights" "[I") (by decide +kernel)) (fun _ h9 => h9) rfl dX3_darkness_19 ?_
          refine lv_iload_n hx hb dX3_darkness_22 rfl (lv_at hl 3 rfl) ?_
          refine k_ialdN (F := (fun iX => ((WT iX : Nat) : Int))) (z := i) hx hb hG hP 1 rfl (by omega) (by decide) dX3_darkness_23 ?_
          refine k_iaddN (a := x) (b := (WT i)) hx hb dX3_darkness_24 ?_
          refine lv_istore_n (lv' := [(2, .int (iI (((x + (WT i) : Nat) : Int)))), (0, .ref t), (1, .int (iI (((cl : Nat) : Int)))), (3, .int (iI (((i : Nat) : Int))))]) hx hb dX3_darkness_25 rfl hl (by decide) rfl (fun ls hl => ?_)
          refine k_iincN (n := 1) (lv' := [(3, .int (iI (((i + 1 : Nat) : Int)))), (2, .int (iI (((x + (WT i) : Nat) : Int)))), (0, .ref t), (1, .int (iI (((cl : Nat) : Int))))]) hx hb dX3_darkness_26 hl (k := 3) rfl (by decide) rfl (fun ls hl => ?_)
          refine lv_goto (tgt := 4) hx hb dX3_darkness_29 (by decide) ?_
          exact ih_4 (i + 1) (x + (WT i)) (by omega) (by first | (rw [dark, if_pos c_14, hxx]; done) | (rw [dark, if_neg c_14, hxx]; rfl)) (by omega) ls (lv_sub hl [2, 3, 1, 0] rfl)
  exact loop_4 (5 - 0) 0 0 (by omega) rfl (Nat.le_refl _) ls (lv_sub hl [2, 3, 1, 0] rfl)

def rmX3_isLighter : Room := { frames := 2, cells := 0, slots := 0, locals := 44 }
set_option maxHeartbeats 4000000 in
set_option maxRecDepth 100000 in
theorem c_X3_isLighter (lM : Launch) (G : GG) (t rw cm tr : Nat) (cr : Int) (ly md aw ad ac ao ax : Nat) (WT : Nat → Nat) (a b : Nat) (h1 : a < 65536) (h2 : b < 65536) (h3 : ∀ k, WT k ≤ 20) : Met lM yX3_isLighter wsX3_isLighter rmX3_isLighter (ro G [.ref t, .int (iI (((a : Nat) : Int))), .int (iI (((b : Nat) : Int)))] [(t, .inr (3, [.int (iI (((rw : Nat) : Int))), .int (iI (((cm : Nat) : Int))), .int (iI (((tr : Nat) : Int))), .int (iI (cr)), .int (iI (((ly : Nat) : Int))), .int (iI (((md : Nat) : Int))), .ref aw, .ref ad, .ref ac, .ref ao, .ref ax])), (aw, .inl (G.2 0, 4, .inl (fun iX => iI ((WT iX : Nat) : Int))))]) (roQ (.int (iI (b2i (decide (lightP WT a b)))))) 0 0 (fun _ => False) := by
  refine ro_of (cc := cX3_isLighter) (maxL := 5) (ret := (some .boolean)) (by decide) rfl (Nat.le_of_ble_eq_true rfl) ?_
  intro pM eM sM mM bM tM cM hx hb hr hts hown hlocks hml hG hP ls hl
  have hown : sM.vm.findClass RX3 = some mM.cls := hown
  have hl : lv_has ls 5 [(0, .ref t), (1, .int (iI (((a : Nat) : Int)))), (2, .int (iI (((b : Nat) : Int))))] := hl
  refine lv_aload_n hx hb dX3_isLighter_0 rfl (lv_at hl 0 rfl) ?_
  refine lv_iload_n hx hb dX3_isLighter_1 rfl (lv_at hl 1 rfl) ?_
  refine k_roV (rest := []) [.int (iI (((a : Nat) : Int)))] ⟨hx, hb, hml, hown, hts⟩ (c_X3_darkness lM G t rw cm tr cr ly md aw ad ac ao ax WT a (by omega)) (cwV 1 hts gX3_isLighter_X3_darkness rfl rfl rfl (by decide +kernel) ⟨Nat.le_of_ble_eq_true rfl, Nat.le_of_ble_eq_true rfl⟩) hG (va_recv hG.1 hP (ci := 3) (q0 := 0) rfl rfl) (hP.sub (ws' := [(t, .inr (3, [.int (iI (((rw : Nat) : Int))), .int (iI (((cm : Nat) : Int))), .int (iI (((tr : Nat) : Int))), .int (iI (cr)), .int (iI (((ly : Nat) : Int))), .int (iI (((md : Nat) : Int))), .ref aw, .ref ad, .ref ac, .ref ao, .ref ax])), (aw, .inl (G.2 0, 4, .inl (fun iX => iI ((WT iX : Nat) : Int))))]) [0, 1] rfl) rfl rfl hl.1 (Nat.le_of_ble_eq_true rfl) ⟨Nat.zero_le _, Nat.zero_le _⟩ dX3_isLighter_2 ?_
  refine lv_istore_n (lv' := [(3, .int (iI (((dark WT a 4 : Nat) : Int)))), (0, .ref t), (1, .int (iI (((a : Nat) : Int)))), (2, .int (iI (((b : Nat) : Int))))]) hx hb dX3_isLighter_5 rfl hl (by decide) rfl (fun ls hl => ?_)
  refine lv_aload_n hx hb dX3_isLighter_6 rfl (lv_at hl 1 rfl) ?_
  refine lv_iload_n hx hb dX3_isLighter_7 rfl (lv_at hl 3 rfl) ?_
  refine k_roV (rest := []) [.int (iI (((b : Nat) : Int)))] ⟨hx, hb, hml, hown, hts⟩ (c_X3_darkness lM G t rw cm tr cr ly md aw ad ac ao ax WT b (by omega)) (cwV 1 hts gX3_isLighter_X3_darkness rfl rfl rfl (by decide +kernel) ⟨Nat.le_of_ble_eq_true rfl, Nat.le_of_ble_eq_true rfl⟩) hG (va_recv hG.1 hP (ci := 3) (q0 := 0) rfl rfl) (hP.sub (ws' := [(t, .inr (3, [.int (iI (((rw : Nat) : Int))), .int (iI (((cm : Nat) : Int))), .int (iI (((tr : Nat) : Int))), .int (iI (cr)), .int (iI (((ly : Nat) : Int))), .int (iI (((md : Nat) : Int))), .ref aw, .ref ad, .ref ac, .ref ao, .ref ax])), (aw, .inl (G.2 0, 4, .inl (fun iX => iI ((WT iX : Nat) : Int))))]) [0, 1] rfl) rfl rfl hl.1 (Nat.le_of_ble_eq_true rfl) ⟨Nat.zero_le _, Nat.zero_le _⟩ dX3_isLighter_8 ?_
  refine lv_istore (lv' := [(4, .int (iI (((dark WT b 4 : Nat) : Int)))), (3, .int (iI (((dark WT a 4 : Nat) : Int)))), (0, .ref t), (1, .int (iI (((a : Nat) : Int)))), (2, .int (iI (((b : Nat) : Int))))]) hx hb dX3_isLighter_11 hl (by decide) rfl (fun ls hl => ?_)
  refine lv_iload_n hx hb dX3_isLighter_13 rfl (lv_at hl 1 rfl) ?_
  refine lv_iload hx hb dX3_isLighter_14 (lv_at hl 0 rfl) ?_
  refine k_icmp_lt (a := ((dark WT a 4 : Nat) : Int)) (b := ((dark WT b 4 : Nat) : Int)) (tgt := 30) hx hb (by have d1 := dark_le h3 a 4; have d2 := dark_le h3 b 4; omega) (by have d1 := dark_le h3 a 4; have d2 := dark_le h3 b 4; omega) dX3_isLighter_16 (by decide) (fun c_16 => ?_) (fun c_16 => ?_)
  · refine lv_iconst (v := iI (1)) hx hb dX3_isLighter_30 rfl ?_
    refine lv_goto (tgt := 35) hx hb dX3_isLighter_31 (by decide) ?_
    exact ro_zret (a := 1) hx hb hr hlocks dX3_isLighter_35 ((b2i_t (by omega)).symm)
  · refine lv_iload_n hx hb dX3_isLighter_19 rfl (lv_at hl 1 rfl) ?_
    refine lv_iload hx hb dX3_isLighter_20 (lv_at hl 0 rfl) ?_
    refine k_icmp_ne (a := ((dark WT a 4 : Nat) : Int)) (b := ((dark WT b 4 : Nat) : Int)) (tgt := 34) hx hb (by have d1 := dark_le h3 a 4; have d2 := dark_le h3 b 4; omega) (by have d1 := dark_le h3 a 4; have d2 := dark_le h3 b 4; omega) dX3_isLighter_22 (by decide) (fun c_22 => ?_) (fun c_22 => ?_)
    · refine lv_iconst (v := iI (0)) hx hb dX3_isLighter_34 rfl ?_
      exact ro_zret (a := 0) hx hb hr hlocks dX3_isLighter_35 ((b2i_f (by omega)).symm)
    · refine lv_iload_n hx hb dX3_isLighter_25 rfl (lv_at hl 3 rfl) ?_
      refine lv_iload_n hx hb dX3_isLighter_26 rfl (lv_at hl 4 rfl) ?_
      refine k_icmp_ge (a := ((a : Nat) : Int)) (b := ((b : Nat) : Int)) (tgt := 34) hx hb (by omega) (by omega) dX3_isLighter_27 (by decide) (fun c_27 => ?_) (fun c_27 => ?_)
      · refine lv_iconst (v := iI (0)) hx hb dX3_isLighter_34 rfl ?_
        exact ro_zret (a := 0) hx hb hr hlocks dX3_isLighter_35 ((b2i_f (by omega)).symm)
      · refine lv_iconst (v := iI (1)) hx hb dX3_isLighter_30 rfl ?_
        refine lv_goto (tgt := 35) hx hb dX3_isLighter_31 (by decide) ?_
        exact ro_zret (a := 1) hx hb hr hlocks dX3_isLighter_35 ((b2i_t (by omega)).symm)

def rmX3_darkerThan : Room := { frames := 3, cells := 0, slots := 0, locals := 68 }
set_option maxHeartbeats 4000000 in
set_option maxRecDepth 100000 in
theorem c_X3_darkerThan (lM : Launch) (G : GG) (t rw cm tr : Nat) (cr : Int) (ly md aw ad ac ao ax : Nat) (WT : Nat → Nat) (cl : Nat) (h1 : cl < 65536) (h2 : ∀ k, WT k ≤ 20) : Met lM yX3_darkerThan wsX3_darkerThan rmX3_darkerThan (ro G [.ref t, .int (iI (((cl : Nat) : Int)))] [(t, .inr (3, [.int (iI (((rw : Nat) : Int))), .int (iI (((cm : Nat) : Int))), .int (iI (((tr : Nat) : Int))), .int (iI (cr)), .int (iI (((ly : Nat) : Int))), .int (iI (((md : Nat) : Int))), .ref aw, .ref ad, .ref ac, .ref ao, .ref ax])), (aw, .inl (G.2 0, 4, .inl (fun iX => iI ((WT iX : Nat) : Int))))]) (roQ (.int (iI (((dkr WT cl 16 : Nat) : Int))))) 0 0 (fun _ => False) := by
  refine ro_of (cc := cX3_darkerThan) (maxL := 4) (ret := (some .int)) (by decide) rfl (Nat.le_of_ble_eq_true rfl) ?_
  intro pM eM sM mM bM tM cM hx hb hr hts hown hlocks hml hG hP ls hl
  have hown : sM.vm.findClass RX3 = some mM.cls := hown
  have hl : lv_has ls 4 [(0, .ref t), (1, .int (iI (((cl : Nat) : Int))))] := hl
  refine lv_iconst (v := iI (0)) hx hb dX3_darkerThan_0 rfl ?_
  refine lv_istore_n (lv' := [(2, .int (iI (0))), (0, .ref t), (1, .int (iI (((cl : Nat) : Int))))]) hx hb dX3_darkerThan_1 rfl hl (by decide) rfl (fun ls hl => ?_)
  refine lv_iconst (v := iI (0)) hx hb dX3_darkerThan_2 rfl ?_
  refine lv_istore_n (lv' := [(3, .int (iI (0))), (2, .int (iI (0))), (0, .ref t), (1, .int (iI (((cl : Nat) : Int))))]) hx hb dX3_darkerThan_3 rfl hl (by decide) rfl (fun ls hl => ?_)
  have loop_4 : ∀ (n_4 : Nat) (i x : Nat), (i ≤ 16) → (x = dkr WT cl i) → 17 - i ≤ n_4 → ∀ ls : Array Slot, lv_has ls 4 [(0, .ref t), (1, .int (iI (((cl : Nat) : Int)))), (2, .int (iI (((x : Nat) : Int)))), (3, .int (iI (((i : Nat) : Int))))] → W pM lM eM rmX3_darkerThan sM mM ([.ref t, .int (iI (((cl : Nat) : Int)))] : List Value).toArray bM tM cM sM.heap [] 0 0 (MQ bM (roQ (.int (iI (((dkr WT cl 16 : Nat) : Int))))) ([.ref t, .int (iI (((cl : Nat) : Int)))] : List Value).toArray sM 0 0 (fun _ => False)) (F0 mM 4 ls []) := by
    intro n_4
    induction n_4 with
    | zero =>
      intro i x hi hxx hm_4 ls hl
      exact absurd hm_4 (by omega)
    | succ n_4 ih_4 =>
      intro i x hi hxx hm_4 ls hl
      refine lv_iload_n hx hb dX3_darkerThan_4 rfl (lv_at hl 3 rfl) ?_
      refine lv_bipush (v := iI (16)) hx hb dX3_darkerThan_5 (by decide) ?_
      refine k_icmp_ge (a := ((i : Nat) : Int)) (b := 16) (tgt := 31) hx hb (by omega) (by omega) dX3_darkerThan_7 (by decide) (fun c_7 => ?_) (fun c_7 => ?_)
      · refine lv_iload_n hx hb dX3_darkerThan_31 rfl (lv_at hl 2 rfl) ?_
        exact ro_iret (a := ((x : Nat) : Int)) hx hb hr hlocks dX3_darkerThan_32 (by have e9 : i = 16 := (by omega); rw [hxx, e9])
      · refine lv_aload_n hx hb dX3_darkerThan_10 rfl (lv_at hl 0 rfl) ?_
        refine lv_iload_n hx hb dX3_darkerThan_11 rfl (lv_at hl 1 rfl) ?_
        refine lv_iload_n hx hb dX3_darkerThan_12 rfl (lv_at hl 3 rfl) ?_
        refine k_roV (rest := []) [.int (iI (((cl : Nat) : Int))), .int (iI (((i : Nat) : Int)))] ⟨hx, hb, hml, hown, hts⟩ (c_X3_isLighter lM G t rw cm tr cr ly md aw ad ac ao ax WT cl i (by omega) (by omega) h2) (cwV 2 hts gX3_darkerThan_X3_isLighter rfl rfl rfl (by decide +kernel) ⟨Nat.le_of_ble_eq_true rfl, Nat.le_of_ble_eq_true rfl⟩) hG (va_recv hG.1 hP (ci := 3) (q0 := 0) rfl rfl) (hP.sub (ws' := [(t, .inr (3, [.int (iI (((rw : Nat) : Int))), .int (iI (((cm : Nat) : Int))), .int (iI (((tr : Nat) : Int))), .int (iI (cr)), .int (iI (((ly : Nat) : Int))), .int (iI (((md : Nat) : Int))), .ref aw, .ref ad, .ref ac, .ref ao, .ref ax])), (aw, .inl (G.2 0, 4, .inl (fun iX => iI ((WT iX : Nat) : Int))))]) [0, 1] rfl) rfl rfl hl.1 (Nat.le_of_ble_eq_true rfl) ⟨Nat.zero_le _, Nat.zero_le _⟩ dX3_darkerThan_13 ?_
        refine k_ifD (P := lightP WT cl i) (tgt := 25) hx hb dX3_darkerThan_16 (by decide) (fun c_16 => ?_) (fun c_16 => ?_)
        · refine k_iincN (n := 1) (lv' := [(3, .int (iI (((i + 1 : Nat) : Int)))), (0, .ref t), (1, .int (iI (((cl : Nat) : Int)))), (2, .int (iI (((x : Nat) : Int))))]) hx hb dX3_darkerThan_25 hl (k := 3) rfl (by decide) rfl (fun ls hl => ?_)
          refine lv_goto (tgt := 4) hx hb dX3_darkerThan_28 (by decide) ?_
          exact ih_4 (i + 1) x (by omega) (by first | (rw [dkr, if_pos c_16, hxx]; done) | (rw [dkr, if_neg c_16, hxx]; done)) (by omega) ls (lv_sub hl [1, 2, 3, 0] rfl)
        · refine lv_iload_n hx hb dX3_darkerThan_19 rfl (lv_at hl 2 rfl) ?_
          refine lv_iconst (v := iI (1)) hx hb dX3_darkerThan_20 rfl ?_
          refine lv_iload_n hx hb dX3_darkerThan_21 rfl (lv_at hl 3 rfl) ?_
          refine k_ishl (a := 1) (b := i) hx hb (by omega) dX3_darkerThan_22 ?_
          refine k_ior (a := x) (b := 1 <<< i) hx hb dX3_darkerThan_23 ?_
          refine lv_istore_n (lv' := [(2, .int (iI (((x ||| (1 <<< i) : Nat) : Int)))), (0, .ref t), (1, .int (iI (((cl : Nat) : Int)))), (3, .int (iI (((i : Nat) : Int))))]) hx hb dX3_darkerThan_24 rfl hl (by decide) rfl (fun ls hl => ?_)
          refine k_iincN (n := 1) (lv' := [(3, .int (iI (((i + 1 : Nat) : Int)))), (2, .int (iI (((x ||| (1 <<< i) : Nat) : Int)))), (0, .ref t), (1, .int (iI (((cl : Nat) : Int))))]) hx hb dX3_darkerThan_25 hl (k := 3) rfl (by decide) rfl (fun ls hl => ?_)
          refine lv_goto (tgt := 4) hx hb dX3_darkerThan_28 (by decide) ?_
          exact ih_4 (i + 1) (x ||| (1 <<< i)) (by omega) (by first | (rw [dkr, if_pos c_16, hxx]; done) | (rw [dkr, if_neg c_16, hxx]; done)) (by omega) ls (lv_sub hl [2, 3, 1, 0] rfl)
  exact loop_4 (17 - 0) 0 0 (by omega) rfl (Nat.le_refl _) ls (lv_sub hl [2, 3, 1, 0] rfl)

def rmX3_offColumns : Room := { frames := 0, cells := 0, slots := 0, locals := 0 }
set_option maxRecDepth 20000 in
theorem inX3_X3_offColumns : ∀ w ∈ wsX30, w ∈ wsX3_offColumns := by decide +kernel
set_option maxHeartbeats 4000000 in
set_option maxRecDepth 100000 in
theorem c_X3_offColumns (lM : Launch) (G : GG) (t rw cm tr : Nat) (cr : Int) (ly md aw ad ac ao ax : Nat) (AC : Nat → Int) (i c : Nat) (h1 : i < 4) (h2 : c ≤ 16) (h3 : -8 ≤ cr ∧ cr ≤ 8) : Met lM yX3_offColumns wsX3_offColumns rmX3_offColumns (ro G [.ref t, .int (iI (((i : Nat) : Int))), .int (iI (((c : Nat) : Int)))] [(t, .inr (3, [.int (iI (((rw : Nat) : Int))), .int (iI (((cm : Nat) : Int))), .int (iI (((tr : Nat) : Int))), .int (iI (cr)), .int (iI (((ly : Nat) : Int))), .int (iI (((md : Nat) : Int))), .ref aw, .ref ad, .ref ac, .ref ao, .ref ax])), (ac, .inl (G.2 0, 4, .inl (fun iX => iI (AC iX))))]) (roQ (.int (iI (offC AC cr i c)))) 0 0 (fun _ => False) := by
  refine ro_of (cc := cX3_offColumns) (maxL := 3) (ret := (some .int)) (by decide) rfl (Nat.le_of_ble_eq_true rfl) ?_
  intro pM eM sM mM bM tM cM hx hb hr hts hown hlocks hml hG hP ls hl
  have hown : sM.vm.findClass RX3 = some mM.cls := hown
  have hl : lv_has ls 3 [(0, .ref t), (1, .int (iI (((i : Nat) : Int)))), (2, .int (iI (((c : Nat) : Int))))] := hl
  refine lv_aload_n hx hb dX3_offColumns_0 rfl (lv_at hl 0 rfl) ?_
  refine va_get (D := G.1) (ci := 3) (v := .ref ac) (C := RX3) (T := TX3) (N := 11) hx hb hts inX3_X3_offColumns hown hG.1 hP 0 rfl rfl 8 (by decide) (hts (.fieldLink RX3 25 "InkOverInk$Sheet" "across" "[I") (by decide +kernel)) (fun _ h9 => h9) rfl dX3_offColumns_1 ?_
  refine lv_iload_n hx hb dX3_offColumns_4 rfl (lv_at hl 1 rfl) ?_
  refine k_ialdN (F := AC) (z := i) hx hb hG hP 1 rfl (by omega) (by decide) dX3_offColumns_5 ?_
  refine lv_iload_n hx hb dX3_offColumns_6 rfl (lv_at hl 2 rfl) ?_
  refine lv_aload_n hx hb dX3_offColumns_7 rfl (lv_at hl 0 rfl) ?_
  refine va_get (D := G.1) (ci := 3) (v := .int (iI (cr))) (C := RX3) (T := TX3) (N := 11) hx hb hts inX3_X3_offColumns hown hG.1 hP 0 rfl rfl 3 (by decide) (hts (.fieldLink RX3 40 "InkOverInk$Sheet" "creeping" "I") (by decide +kernel)) (fun _ h9 => h9) rfl dX3_offColumns_8 ?_
  refine k_imul (a := ((c : Nat) : Int)) (b := cr) hx hb dX3_offColumns_11 ?_
  refine lv_bipush (v := iI (8)) hx hb dX3_offColumns_12 (by decide) ?_
  refine k_idiv (a := ((c : Nat) : Int) * cr) (b := 8) hx hb (by have e := mul_bd (x := cr) (y := (c : Int)) (a := 8) (b := 16) (by omega) (by omega) (by omega); have e3 : cr * (c : Int) = (c : Int) * cr := Int.mul_comm _ _; omega) (by omega) dX3_offColumns_14 ?_
  refine k_iadd (a := AC i) (b := ((((c : Nat) : Int) * cr)).tdiv 8) hx hb dX3_offColumns_15 ?_
  exact ro_iret (a := (AC i) + (((((c : Nat) : Int) * cr)).tdiv 8)) hx hb hr hlocks dX3_offColumns_16 (rfl)

def rmX3_reach : Room := { frames := 1, cells := 0, slots := 0, locals := 22 }
set_option maxRecDepth 20000 in
theorem inX3_X3_reach : ∀ w ∈ wsX30, w ∈ wsX3_reach := by decide +kernel
set_option maxHeartbeats 4000000 in
set_option maxRecDepth 100000 in
theorem c_X3_reach (lM : Launch) (G : GG) (t rw cm tr : Nat) (cr : Int) (ly md aw ad ac ao ax : Nat) (DN AC : Nat → Int) (h1 : cm ≤ 16) (h2 : -8 ≤ cr ∧ cr ≤ 8) (h3 : ∀ k, -6 ≤ DN k ∧ DN k ≤ 6) (h4 : ∀ k, -6 ≤ AC k ∧ AC k ≤ 6) : Met lM yX3_reach wsX3_reach rmX3_reach (ro G [.ref t] [(t, .inr (3, [.int (iI (((rw : Nat) : Int))), .int (iI (((cm : Nat) : Int))), .int (iI (((tr : Nat) : Int))), .int (iI (cr)), .int (iI (((ly : Nat) : Int))), .int (iI (((md : Nat) : Int))), .ref aw, .ref ad, .ref ac, .ref ao, .ref ax])), (ad, .inl (G.2 0, 4, .inl (fun iX => iI (DN iX)))), (ac, .inl (G.2 0, 4, .inl (fun iX => iI (AC iX))))]) (roQ (.int (iI (rch DN AC cr cm 4)))) 0 0 (fun _ => False) := by
  refine ro_of (cc := cX3_reach) (maxL := 4) (ret := (some .int)) (by decide) rfl (Nat.le_of_ble_eq_true rfl) ?_
  intro pM eM sM mM bM tM cM hx hb hr hts hown hlocks hml hG hP ls hl
  have hown : sM.vm.findClass RX3 = some mM.cls := hown
  have hl : lv_has ls 4 [(0, .ref t)] := hl
  refine lv_iconst (v := iI (0)) hx hb dX3_reach_0 rfl ?_
  refine lv_istore_n (lv' := [(1, .int (iI (0))), (0, .ref t)]) hx hb dX3_reach_1 rfl hl (by decide) rfl (fun ls hl => ?_)
  refine lv_iconst (v := iI (0)) hx hb dX3_reach_2 rfl ?_
  refine lv_istore_n (lv' := [(2, .int (iI (0))), (1, .int (iI (0))), (0, .ref t)]) hx hb dX3_reach_3 rfl hl (by decide) rfl (fun ls hl => ?_)
  have loop_4 : ∀ (n_4 : Nat) (i : Nat) (x : Int), (i ≤ 4) → (x = rch DN AC cr cm i) → (0 ≤ x ∧ x ≤ 22) → 5 - i ≤ n_4 → ∀ ls : Array Slot, lv_has ls 4 [(0, .ref t), (1, .int (iI (x))), (2, .int (iI (((i : Nat) : Int))))] → W pM lM eM rmX3_reach sM mM ([.ref t] : List Value).toArray bM tM cM sM.heap [] 0 0 (MQ bM (roQ (.int (iI (rch DN AC cr cm 4)))) ([.ref t] : List Value).toArray sM 0 0 (fun _ => False)) (F0 mM 4 ls []) := by
    intro n_4
    induction n_4 with
    | zero =>
      intro i x hi hxx hxb hm_4 ls hl
      exact absurd hm_4 (by omega)
    | succ n_4 ih_4 =>
      intro i x hi hxx hxb hm_4 ls hl
      refine lv_iload_n hx hb dX3_reach_4 rfl (lv_at hl 2 rfl) ?_
      refine lv_iconst (v := iI (4)) hx hb dX3_reach_5 rfl ?_
      refine k_icmp_ge (a := ((i : Nat) : Int)) (b := 4) (tgt := 59) hx hb (by omega) (by omega) dX3_reach_6 (by decide) (fun c_6 => ?_) (fun c_6 => ?_)
      · refine lv_iload_n hx hb dX3_reach_59 rfl (lv_at hl 1 rfl) ?_
        exact ro_iret (a := x) hx hb hr hlocks dX3_reach_60 (by have e9 : i = 4 := (by omega); rw [hxx, e9])
      · refine lv_iload_n hx hb dX3_reach_9 rfl (lv_at hl 1 rfl) ?_
        refine lv_aload_n hx hb dX3_reach_10 rfl (lv_at hl 0 rfl) ?_
        refine va_get (D := G.1) (ci := 3) (v := .ref ad) (C := RX3) (T := TX3) (N := 11) hx hb hts inX3_X3_reach hown hG.1 hP 0 rfl rfl 7 (by decide) (hts (.fieldLink RX3 22 "InkOverInk$Sheet" "down" "[I") (by decide +kernel)) (fun _ h9 => h9) rfl dX3_reach_11 ?_
        refine lv_iload_n hx hb dX3_reach_14 rfl (lv_at hl 2 rfl) ?_
        refine k_ialdN (F := DN) (z := i) hx hb hG hP 1 rfl (by omega) (by decide) dX3_reach_15 ?_
        refine k_mabs (a := DN i) hx hb (by rw [hml]; exact hl.1.symm) hown (hts (.methodLink RX3 94 Lib.Math.abs.name) (by decide +kernel)) (hts (.static Lib.Math.abs.name) (by decide +kernel)) (hts (.initialized "java/lang/Math") (by decide +kernel)) (hts (.code Lib.Math.abs.name Lib.Math.abs.code 1 (some .int)) (by decide +kernel)) (by have d1 := h3 i; omega) (Nat.le_of_ble_eq_true rfl) (Nat.le_of_ble_eq_true rfl) (Nat.zero_le _) (Nat.zero_le _) dX3_reach_16 ?_
        refine k_mmax (a := x) (b := (if 0 ≤ DN i then DN i else -(DN i))) hx hb (by rw [hml]; exact hl.1.symm) hown (hts (.methodLink RX3 99 Lib.Math.max.name) (by decide +kernel)) (hts (.static Lib.Math.max.name) (by decide +kernel)) (hts (.initialized "java/lang/Math") (by decide +kernel)) (hts (.code Lib.Math.max.name Lib.Math.max.code 2 (some .int)) (by decide +kernel)) (by omega) (by have d1 := h3 i; omega) (Nat.le_of_ble_eq_true rfl) (Nat.le_of_ble_eq_true rfl) (Nat.zero_le _) (Nat.zero_le _) dX3_reach_19 ?_
        refine lv_istore_n (lv' := [(1, .int (iI (max x (if 0 ≤ DN i then DN i else -(DN i))))), (0, .ref t), (2, .int (iI (((i : Nat) : Int))))]) hx hb dX3_reach_22 rfl hl (by decide) rfl (fun ls hl => ?_)
        refine lv_iconst (v := iI (0)) hx hb dX3_reach_23 rfl ?_
        refine lv_istore_n (lv' := [(3, .int (iI (0))), (1, .int (iI (max x (if 0 ≤ DN i then DN i else -(DN i))))), (0, .ref t), (2, .int (iI (((i : Nat) : Int))))]) hx hb dX3_reach_24 rfl hl (by decide) rfl (fun ls hl => ?_)
        have loop_25 : ∀ (n_25 : Nat) (j : Nat) (y : Int), (j ≤ cm) → (y = rchC AC cr i (max x (iabs (DN i))) j) → (0 ≤ y ∧ y ≤ 22) → cm + 1 - j ≤ n_25 → ∀ ls : Array Slot, lv_has ls 4 [(0, .ref t), (1, .int (iI (y))), (2, .int (iI (((i : Nat) : Int)))), (3, .int (iI (((j : Nat) : Int))))] → W pM lM eM rmX3_reach sM mM ([.ref t] : List Value).toArray bM tM cM sM.heap [] 0 0 (MQ bM (roQ (.int (iI (rch DN AC cr cm 4)))) ([.ref t] : List Value).toArray sM 0 0 (fun _ => False)) (F0 mM 25 ls []) := by
          intro n_25
          induction n_25 with
          | zero =>
            intro j y hj hyy hyb hm_25 ls hl
            exact absurd hm_25 (by omega)
          | succ n_25 ih_25 =>
            intro j y hj hyy hyb hm_25 ls hl
            refine lv_iload_n hx hb dX3_reach_25 rfl (lv_at hl 3 rfl) ?_
            refine lv_aload_n hx hb dX3_reach_26 rfl (lv_at hl 0 rfl) ?_
            refine va_get (D := G.1) (ci := 3) (v := .int (iI (((cm : Nat) : Int)))) (C := RX3) (T := TX3) (N := 11) hx hb hts inX3_X3_reach hown hG.1 hP 0 rfl rfl 1 (by decide) (hts (.fieldLink RX3 15 "InkOverInk$Sheet" "columns" "I") (by decide +kernel)) (fun _ h9 => h9) rfl dX3_reach_27 ?_
            refine k_icmp_ge (a := ((j : Nat) : Int)) (b := ((cm : Nat) : Int)) (tgt := 53) hx hb (by omega) (by omega) dX3_reach_30 (by decide) (fun c_30 => ?_) (fun c_30 => ?_)
            · refine k_iincN (n := 1) (lv' := [(2, .int (iI (((i + 1 : Nat) : Int)))), (0, .ref t), (1, .int (iI (y))), (3, .int (iI (((j : Nat) : Int))))]) hx hb dX3_reach_53 hl (k := 2) rfl (by decide) rfl (fun ls hl => ?_)
              refine lv_goto (tgt := 4) hx hb dX3_reach_56 (by decide) ?_
              exact ih_4 (i + 1) y (by omega) (by rw [rch, hyy, show j = cm by omega, hxx]) hyb (by omega) ls (lv_sub hl [1, 2, 0] rfl)
            · refine lv_iload_n hx hb dX3_reach_33 rfl (lv_at hl 1 rfl) ?_
              refine lv_aload_n hx hb dX3_reach_34 rfl (lv_at hl 0 rfl) ?_
              refine lv_iload_n hx hb dX3_reach_35 rfl (lv_at hl 2 rfl) ?_
              refine lv_iload_n hx hb dX3_reach_36 rfl (lv_at hl 3 rfl) ?_
              refine k_roV (rest := [.int (iI (y))]) [.int (iI (((i : Nat) : Int))), .int (iI (((j : Nat) : Int)))] ⟨hx, hb, hml, hown, hts⟩ (c_X3_offColumns lM G t rw cm tr cr ly md aw ad ac ao ax AC i j (by omega) (by omega) (by omega)) (cwV 2 hts gX3_reach_X3_offColumns rfl rfl rfl (by decide +kernel) ⟨Nat.le_of_ble_eq_true rfl, Nat.le_of_ble_eq_true rfl⟩) hG (va_recv hG.1 hP (ci := 3) (q0 := 0) rfl rfl) (hP.sub (ws' := [(t, .inr (3, [.int (iI (((rw : Nat) : Int))), .int (iI (((cm : Nat) : Int))), .int (iI (((tr : Nat) : Int))), .int (iI (cr)), .int (iI (((ly : Nat) : Int))), .int (iI (((md : Nat) : Int))), .ref aw, .ref ad, .ref ac, .ref ao, .ref ax])), (ac, .inl (G.2 0, 4, .inl (fun iX => iI (AC iX))))]) [0, 2] rfl) rfl rfl hl.1 (Nat.le_of_ble_eq_true rfl) ⟨Nat.zero_le _, Nat.zero_le _⟩ dX3_reach_37 ?_
              refine k_mabs (a := offC AC cr i j) hx hb (by rw [hml]; exact hl.1.symm) hown (hts (.methodLink RX3 94 Lib.Math.abs.name) (by decide +kernel)) (hts (.static Lib.Math.abs.name) (by decide +kernel)) (hts (.initialized "java/lang/Math") (by decide +kernel)) (hts (.code Lib.Math.abs.name Lib.Math.abs.code 1 (some .int)) (by decide +kernel)) (by have d1 := offC_bd (AC := AC) (cr := cr) (i := i) (c := j) (h4 i) h2 (by omega); omega) (Nat.le_of_ble_eq_true rfl) (Nat.le_of_ble_eq_true rfl) (Nat.zero_le _) (Nat.zero_le _) dX3_reach_40 ?_
              refine k_mmax (a := y) (b := (if 0 ≤ offC AC cr i j then offC AC cr i j else -(offC AC cr i j))) hx hb (by rw [hml]; exact hl.1.symm) hown (hts (.methodLink RX3 99 Lib.Math.max.name) (by decide +kernel)) (hts (.static Lib.Math.max.name) (by decide +kernel)) (hts (.initialized "java/lang/Math") (by decide +kernel)) (hts (.code Lib.Math.max.name Lib.Math.max.code 2 (some .int)) (by decide +kernel)) (by omega) (by have d1 := offC_bd (AC := AC) (cr := cr) (i := i) (c := j) (h4 i) h2 (by omega); omega) (Nat.le_of_ble_eq_true rfl) (Nat.le_of_ble_eq_true rfl) (Nat.zero_le _) (Nat.zero_le _) dX3_reach_43 ?_
              refine lv_istore_n (lv' := [(1, .int (iI (max y (if 0 ≤ offC AC cr i j then offC AC cr i j else -(offC AC cr i j))))), (0, .ref t), (2, .int (iI (((i : Nat) : Int)))), (3, .int (iI (((j : Nat) : Int))))]) hx hb dX3_reach_46 rfl hl (by decide) rfl (fun ls hl => ?_)
              refine k_iincN (n := 1) (lv' := [(3, .int (iI (((j + 1 : Nat) : Int)))), (1, .int (iI (max y (if 0 ≤ offC AC cr i j then offC AC cr i j else -(offC AC cr i j))))), (0, .ref t), (2, .int (iI (((i : Nat) : Int))))]) hx hb dX3_reach_47 hl (k := 3) rfl (by decide) rfl (fun ls hl => ?_)
              refine lv_goto (tgt := 25) hx hb dX3_reach_50 (by decide) ?_
              exact ih_25 (j + 1) (max y (if 0 ≤ offC AC cr i j then offC AC cr i j else -(offC AC cr i j))) (by omega) (by rw [rchC, hyy]; rfl) (by have d1 := offC_bd (AC := AC) (cr := cr) (i := i) (c := j) (h4 i) h2 (by omega); omega) (by omega) ls (lv_sub hl [2, 1, 3, 0] rfl)
        exact loop_25 (cm + 1 - 0) 0 (max x (if 0 ≤ DN i then DN i else -(DN i))) (by omega) rfl (by have d1 := h3 i; omega) (Nat.le_refl _) ls (lv_sub hl [2, 1, 3, 0] rfl)
  exact loop_4 (5 - 0) 0 0 (by omega) rfl (by omega) (Nat.le_refl _) ls (lv_sub hl [2, 1, 0] rfl)
