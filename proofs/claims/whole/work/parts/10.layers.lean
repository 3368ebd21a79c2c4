/-! what Layers answers: words of rows -/
def lyW (F : Nat → Nat) (a : Nat) (z : Int) : Nat := if 0 ≤ z ∧ z < 16 then F (a * 16 + z.toNat) else 0
def lyAny (F : Nat → Nat) (left z : Int) : Nat → Nat
  | 0 => 0
  | n + 1 => if (n : Int) = left then lyAny F left z n else lyAny F left z n ||| lyW F n z
def lyOr (F : Nat → Nat) (a : Nat) (z0 : Int) : Nat → Nat
  | 0 => 0
  | k + 1 => lyOr F a z0 k ||| lyW F a (z0 + k)
def lyGrow (x : Nat) : Nat → Nat
  | 0 => x
  | c + 1 => lyGrow x c ||| ((x <<< (c + 1)) ||| (x >>> (c + 1)))
def lyNear (F : Nat → Nat) (a : Nat) (z : Int) (n : Nat) : Nat := lyGrow (lyOr F a (z - n) (2 * n + 1)) n
def lyAnd (F : Nat → Nat) (a : Nat) (x : Nat) (z0 : Int) : Nat → Nat
  | 0 => x
  | k + 1 => lyAnd F a x z0 k &&& lyW F a (z0 + k)
def lyShr (x : Nat) : Nat → Nat
  | 0 => x
  | c + 1 => lyShr x c &&& ((x <<< (c + 1)) &&& (x >>> (c + 1)))
def lySur (F : Nat → Nat) (a : Nat) (z : Int) (n : Nat) : Nat := lyShr (lyAnd F a (lyW F a z) (z - n) (2 * n + 1)) n
abbrev lyHas (F : Nat → Nat) (a : Nat) (z c : Int) : Prop := 0 ≤ c ∧ c ≤ 15 ∧ (lyW F a z >>> c.toNat) &&& 1 = 1
def lyThru (F : Nat → Nat) (z c : Int) : Nat → Nat
  | 0 => 0
  | n + 1 => if lyHas F n z c then lyThru F z c n ||| (1 <<< n) else lyThru F z c n
def popN (a : Nat) : Nat → Nat
  | 0 => 0
  | k + 1 => popN a k + (if a.testBit k then 1 else 0)
def pop (a : Nat) : Nat := popN a 16
def lySz (F : Nat → Nat) : Nat → Nat
  | 0 => 0
  | n + 1 => lySz F n + pop (F n)
def rmX4_isWithin : Room := { frames := 0, cells := 0, slots := 0, locals := 0 }
set_option maxHeartbeats 4000000 in
set_option maxRecDepth 100000 in
/-- isWithin -/
theorem c_X4_isWithin (lM : Launch) (G : GG) (v lo hi : Int) (h1 : -2147483648 ≤ v ∧ v < 2147483648) (h2 : -2147483648 ≤ lo ∧ lo < 2147483648) (h3 : -2147483648 ≤ hi ∧ hi < 2147483648) : Met lM yX4_isWithin wsX4_isWithin rmX4_isWithin (ro G [.int (iI (v)), .int (iI (lo)), .int (iI (hi))] []) (roQ (.int (iI (b2i (decide (lo ≤ v ∧ v ≤ hi)))))) 0 0 (fun _ => False) := by
  refine ro_of (cc := cX4_isWithin) (maxL := 3) (ret := (some .boolean)) (by decide) rfl (Nat.le_of_ble_eq_true rfl) ?_
  intro pM eM sM mM bM tM cM hx hb hr hts hown hlocks hml hG hP ls hl
  have hown : sM.vm.findClass RX4 = some mM.cls := hown
  have hl : lv_has ls 3 [(0, .int (iI (v))), (1, .int (iI (lo))), (2, .int (iI (hi)))] := hl
  refine lv_iload_n hx hb dX4_isWithin_0 rfl (lv_at hl 0 rfl) ?_
  refine lv_iload_n hx hb dX4_isWithin_1 rfl (lv_at hl 1 rfl) ?_
  refine k_icmp_lt (a := v) (b := lo) (tgt := 14) hx hb (by omega) (by omega) dX4_isWithin_2 (by decide) (fun c_2 => ?_) (fun c_2 => ?_)
  · refine lv_iconst (v := iI (0)) hx hb dX4_isWithin_14 rfl ?_
    exact ro_zret (a := 0) hx hb hr hlocks dX4_isWithin_15 ((b2i_f (by omega)).symm)
  · refine lv_iload_n hx hb dX4_isWithin_5 rfl (lv_at hl 0 rfl) ?_
    refine lv_iload_n hx hb dX4_isWithin_6 rfl (lv_at hl 2 rfl) ?_
    refine k_icmp_gt (a := v) (b := hi) (tgt := 14) hx hb (by omega) (by omega) dX4_isWithin_7 (by decide) (fun c_7 => ?_) (fun c_7 => ?_)
    · refine lv_iconst (v := iI (0)) hx hb dX4_isWithin_14 rfl ?_
      exact ro_zret (a := 0) hx hb hr hlocks dX4_isWithin_15 ((b2i_f (by omega)).symm)
    · refine lv_iconst (v := iI (1)) hx hb dX4_isWithin_10 rfl ?_
      refine lv_goto (tgt := 15) hx hb dX4_isWithin_11 (by decide) ?_
      exact ro_zret (a := 1) hx hb hr hlocks dX4_isWithin_15 ((b2i_t (by omega)).symm)

def rmX4_isInk : Room := { frames := 1, cells := 0, slots := 0, locals := 22 }
set_option maxHeartbeats 4000000 in
set_option maxRecDepth 100000 in
theorem c_X4_isInk (lM : Launch) (G : GG) (v : Int) (h1 : -2147483648 ≤ v ∧ v < 2147483648) : Met lM yX4_isInk wsX4_isInk rmX4_isInk (ro G [.int (iI (v))] []) (roQ (.int (iI (b2i (decide (0 ≤ v ∧ v ≤ 3)))))) 0 0 (fun _ => False) := by
  refine ro_of (cc := cX4_isInk) (maxL := 1) (ret := (some .boolean)) (by decide) rfl (Nat.le_of_ble_eq_true rfl) ?_
  intro pM eM sM mM bM tM cM hx hb hr hts hown hlocks hml hG hP ls hl
  have hown : sM.vm.findClass RX4 = some mM.cls := hown
  have hl : lv_has ls 1 [(0, .int (iI (v)))] := hl
  refine lv_iload_n hx hb dX4_isInk_0 rfl (lv_at hl 0 rfl) ?_
  refine lv_iconst (v := iI (0)) hx hb dX4_isInk_1 rfl ?_
  refine lv_iconst (v := iI (3)) hx hb dX4_isInk_2 rfl ?_
  refine k_roS (rest := []) [.int (iI (v)), .int (iI (0)), .int (iI (3))] ⟨hx, hb, hml, hown, hts⟩ (c_X4_isWithin lM G v 0 3 (by omega) (by omega) (by omega)) (va_cwS 3 hts gX4_isInk_X4_isWithin rfl rfl rfl (by decide +kernel) ⟨Nat.le_of_ble_eq_true rfl, Nat.le_of_ble_eq_true rfl⟩) hG (fun k q h => by simp at h) rfl rfl hl.1 (Nat.le_of_ble_eq_true rfl) ⟨Nat.zero_le _, Nat.zero_le _⟩ dX4_isInk_3 ?_
  exact ro_zret (a := b2i (decide (0 ≤ v ∧ v ≤ 3))) hx hb hr hlocks dX4_isInk_6 (rfl)

def rmX4_isColour : Room := { frames := 1, cells := 0, slots := 0, locals := 22 }
set_option maxHeartbeats 4000000 in
set_option maxRecDepth 100000 in
theorem c_X4_isColour (lM : Launch) (G : GG) (v : Int) (h1 : -2147483648 ≤ v ∧ v < 2147483648) : Met lM yX4_isColour wsX4_isColour rmX4_isColour (ro G [.int (iI (v))] []) (roQ (.int (iI (b2i (decide (0 ≤ v ∧ v ≤ 15)))))) 0 0 (fun _ => False) := by
  refine ro_of (cc := cX4_isColour) (maxL := 1) (ret := (some .boolean)) (by decide) rfl (Nat.le_of_ble_eq_true rfl) ?_
  intro pM eM sM mM bM tM cM hx hb hr hts hown hlocks hml hG hP ls hl
  have hown : sM.vm.findClass RX4 = some mM.cls := hown
  have hl : lv_has ls 1 [(0, .int (iI (v)))] := hl
  refine lv_iload_n hx hb dX4_isColour_0 rfl (lv_at hl 0 rfl) ?_
  refine lv_iconst (v := iI (0)) hx hb dX4_isColour_1 rfl ?_
  refine lv_bipush (v := iI (15)) hx hb dX4_isColour_2 (by decide) ?_
  refine k_roS (rest := []) [.int (iI (v)), .int (iI (0)), .int (iI (15))] ⟨hx, hb, hml, hown, hts⟩ (c_X4_isWithin lM G v 0 15 (by omega) (by omega) (by omega)) (va_cwS 3 hts gX4_isColour_X4_isWithin rfl rfl rfl (by decide +kernel) ⟨Nat.le_of_ble_eq_true rfl, Nat.le_of_ble_eq_true rfl⟩) hG (fun k q h => by simp at h) rfl rfl hl.1 (Nat.le_of_ble_eq_true rfl) ⟨Nat.zero_le _, Nat.zero_le _⟩ dX4_isColour_4 ?_
  exact ro_zret (a := b2i (decide (0 ≤ v ∧ v ≤ 15))) hx hb hr hlocks dX4_isColour_7 (rfl)

def rmX4_isPlace : Room := { frames := 1, cells := 0, slots := 0, locals := 22 }
set_option maxHeartbeats 4000000 in
set_option maxRecDepth 100000 in
theorem c_X4_isPlace (lM : Launch) (G : GG) (v u : Int) (h1 : -2147483648 ≤ v ∧ v < 2147483648) (h2 : -2147483648 ≤ u ∧ u < 2147483648) : Met lM yX4_isPlace wsX4_isPlace rmX4_isPlace (ro G [.int (iI (v)), .int (iI (u))] []) (roQ (.int (iI (b2i (decide ((-16 ≤ v ∧ v ≤ 31) ∧ (-16 ≤ u ∧ u ≤ 31))))))) 0 0 (fun _ => False) := by
  refine ro_of (cc := cX4_isPlace) (maxL := 2) (ret := (some .boolean)) (by decide) rfl (Nat.le_of_ble_eq_true rfl) ?_
  intro pM eM sM mM bM tM cM hx hb hr hts hown hlocks hml hG hP ls hl
  have hown : sM.vm.findClass RX4 = some mM.cls := hown
  have hl : lv_has ls 2 [(0, .int (iI (v))), (1, .int (iI (u)))] := hl
  refine lv_iload_n hx hb dX4_isPlace_0 rfl (lv_at hl 0 rfl) ?_
  refine lv_bipush (v := iI (-16)) hx hb dX4_isPlace_1 (by decide) ?_
  refine lv_bipush (v := iI (31)) hx hb dX4_isPlace_3 (by decide) ?_
  refine k_roS (rest := []) [.int (iI (v)), .int (iI ((-16))), .int (iI (31))] ⟨hx, hb, hml, hown, hts⟩ (c_X4_isWithin lM G v (-16) 31 (by omega) (by omega) (by omega)) (va_cwS 3 hts gX4_isPlace_X4_isWithin rfl rfl rfl (by decide +kernel) ⟨Nat.le_of_ble_eq_true rfl, Nat.le_of_ble_eq_true rfl⟩) hG (fun k q h => by simp at h) rfl rfl hl.1 (Nat.le_of_ble_eq_true rfl) ⟨Nat.zero_le _, Nat.zero_le _⟩ dX4_isPlace_5 ?_
  refine k_ifD (P := (-16) ≤ v ∧ v ≤ 31) (tgt := 26) hx hb dX4_isPlace_8 (by decide) (fun c_8 => ?_) (fun c_8 => ?_)
  · refine lv_iconst (v := iI (0)) hx hb dX4_isPlace_26 rfl ?_
    exact ro_zret (a := 0) hx hb hr hlocks dX4_isPlace_27 ((b2i_f (by omega)).symm)
  · refine lv_iload_n hx hb dX4_isPlace_11 rfl (lv_at hl 1 rfl) ?_
    refine lv_bipush (v := iI (-16)) hx hb dX4_isPlace_12 (by decide) ?_
    refine lv_bipush (v := iI (31)) hx hb dX4_isPlace_14 (by decide) ?_
    refine k_roS (rest := []) [.int (iI (u)), .int (iI ((-16))), .int (iI (31))] ⟨hx, hb, hml, hown, hts⟩ (c_X4_isWithin lM G u (-16) 31 (by omega) (by omega) (by omega)) (va_cwS 3 hts gX4_isPlace_X4_isWithin rfl rfl rfl (by decide +kernel) ⟨Nat.le_of_ble_eq_true rfl, Nat.le_of_ble_eq_true rfl⟩) hG (fun k q h => by simp at h) rfl rfl hl.1 (Nat.le_of_ble_eq_true rfl) ⟨Nat.zero_le _, Nat.zero_le _⟩ dX4_isPlace_16 ?_
    refine k_ifD (P := (-16) ≤ u ∧ u ≤ 31) (tgt := 26) hx hb dX4_isPlace_19 (by decide) (fun c_19 => ?_) (fun c_19 => ?_)
    · refine lv_iconst (v := iI (0)) hx hb dX4_isPlace_26 rfl ?_
      exact ro_zret (a := 0) hx hb hr hlocks dX4_isPlace_27 ((b2i_f (by omega)).symm)
    · refine lv_iconst (v := iI (1)) hx hb dX4_isPlace_22 rfl ?_
      refine lv_goto (tgt := 27) hx hb dX4_isPlace_23 (by decide) ?_
      exact ro_zret (a := 1) hx hb hr hlocks dX4_isPlace_27 ((b2i_t (by omega)).symm)

def rmX4_isOff : Room := { frames := 1, cells := 0, slots := 0, locals := 22 }
set_option maxHeartbeats 4000000 in
set_option maxRecDepth 100000 in
theorem c_X4_isOff (lM : Launch) (G : GG) (v u : Int) (h1 : -2147483648 ≤ v ∧ v < 2147483648) (h2 : -2147483648 ≤ u ∧ u < 2147483648) : Met lM yX4_isOff wsX4_isOff rmX4_isOff (ro G [.int (iI (v)), .int (iI (u))] []) (roQ (.int (iI (b2i (decide ((-6 ≤ v ∧ v ≤ 6) ∧ (-6 ≤ u ∧ u ≤ 6))))))) 0 0 (fun _ => False) := by
  refine ro_of (cc := cX4_isOff) (maxL := 2) (ret := (some .boolean)) (by decide) rfl (Nat.le_of_ble_eq_true rfl) ?_
  intro pM eM sM mM bM tM cM hx hb hr hts hown hlocks hml hG hP ls hl
  have hown : sM.vm.findClass RX4 = some mM.cls := hown
  have hl : lv_has ls 2 [(0, .int (iI (v))), (1, .int (iI (u)))] := hl
  refine lv_iload_n hx hb dX4_isOff_0 rfl (lv_at hl 0 rfl) ?_
  refine lv_bipush (v := iI (-6)) hx hb dX4_isOff_1 (by decide) ?_
  refine lv_bipush (v := iI (6)) hx hb dX4_isOff_3 (by decide) ?_
  refine k_roS (rest := []) [.int (iI (v)), .int (iI ((-6))), .int (iI (6))] ⟨hx, hb, hml, hown, hts⟩ (c_X4_isWithin lM G v (-6) 6 (by omega) (by omega) (by omega)) (va_cwS 3 hts gX4_isOff_X4_isWithin rfl rfl rfl (by decide +kernel) ⟨Nat.le_of_ble_eq_true rfl, Nat.le_of_ble_eq_true rfl⟩) hG (fun k q h => by simp at h) rfl rfl hl.1 (Nat.le_of_ble_eq_true rfl) ⟨Nat.zero_le _, Nat.zero_le _⟩ dX4_isOff_5 ?_
  refine k_ifD (P := (-6) ≤ v ∧ v ≤ 6) (tgt := 26) hx hb dX4_isOff_8 (by decide) (fun c_8 => ?_) (fun c_8 => ?_)
  · refine lv_iconst (v := iI (0)) hx hb dX4_isOff_26 rfl ?_
    exact ro_zret (a := 0) hx hb hr hlocks dX4_isOff_27 ((b2i_f (by omega)).symm)
  · refine lv_iload_n hx hb dX4_isOff_11 rfl (lv_at hl 1 rfl) ?_
    refine lv_bipush (v := iI (-6)) hx hb dX4_isOff_12 (by decide) ?_
    refine lv_bipush (v := iI (6)) hx hb dX4_isOff_14 (by decide) ?_
    refine k_roS (rest := []) [.int (iI (u)), .int (iI ((-6))), .int (iI (6))] ⟨hx, hb, hml, hown, hts⟩ (c_X4_isWithin lM G u (-6) 6 (by omega) (by omega) (by omega)) (va_cwS 3 hts gX4_isOff_X4_isWithin rfl rfl rfl (by decide +kernel) ⟨Nat.le_of_ble_eq_true rfl, Nat.le_of_ble_eq_true rfl⟩) hG (fun k q h => by simp at h) rfl rfl hl.1 (Nat.le_of_ble_eq_true rfl) ⟨Nat.zero_le _, Nat.zero_le _⟩ dX4_isOff_16 ?_
    refine k_ifD (P := (-6) ≤ u ∧ u ≤ 6) (tgt := 26) hx hb dX4_isOff_19 (by decide) (fun c_19 => ?_) (fun c_19 => ?_)
    · refine lv_iconst (v := iI (0)) hx hb dX4_isOff_26 rfl ?_
      exact ro_zret (a := 0) hx hb hr hlocks dX4_isOff_27 ((b2i_f (by omega)).symm)
    · refine lv_iconst (v := iI (1)) hx hb dX4_isOff_22 rfl ?_
      refine lv_goto (tgt := 27) hx hb dX4_isOff_23 (by decide) ?_
      exact ro_zret (a := 1) hx hb hr hlocks dX4_isOff_27 ((b2i_t (by omega)).symm)

def rmX4_hasInk : Room := { frames := 0, cells := 0, slots := 0, locals := 0 }
set_option maxHeartbeats 4000000 in
set_option maxRecDepth 100000 in
theorem c_X4_hasInk (lM : Launch) (G : GG) (v u : Nat) (h1 : v < 65536) (h2 : u < 32) : Met lM yX4_hasInk wsX4_hasInk rmX4_hasInk (ro G [.int (iI (((v : Nat) : Int))), .int (iI (((u : Nat) : Int)))] []) (roQ (.int (iI (b2i (decide ((v >>> u) &&& 1 = 1)))))) 0 0 (fun _ => False) := by
  refine ro_of (cc := cX4_hasInk) (maxL := 2) (ret := (some .boolean)) (by decide) rfl (Nat.le_of_ble_eq_true rfl) ?_
  intro pM eM sM mM bM tM cM hx hb hr hts hown hlocks hml hG hP ls hl
  have hown : sM.vm.findClass RX4 = some mM.cls := hown
  have hl : lv_has ls 2 [(0, .int (iI (((v : Nat) : Int)))), (1, .int (iI (((u : Nat) : Int))))] := hl
  have hlt : (v >>> u) &&& 1 ≤ 1 := Nat.and_le_right
  refine lv_iload_n hx hb dX4_hasInk_0 rfl (lv_at hl 0 rfl) ?_
  refine lv_iload_n hx hb dX4_hasInk_1 rfl (lv_at hl 1 rfl) ?_
  refine k_ishr (a := v) (b := u) hx hb (by omega) (by omega) dX4_hasInk_2 ?_
  refine lv_iconst (v := iI (1)) hx hb dX4_hasInk_3 rfl ?_
  refine k_iand (a := v >>> u) (b := 1) hx hb dX4_hasInk_4 ?_
  refine lv_iconst (v := iI (1)) hx hb dX4_hasInk_5 rfl ?_
  refine k_icmp_ne (a := (((v >>> u) &&& 1 : Nat) : Int)) (b := 1) (tgt := 13) hx hb (by omega) (by omega) dX4_hasInk_6 (by decide) (fun c_6 => ?_) (fun c_6 => ?_)
  · refine lv_iconst (v := iI (0)) hx hb dX4_hasInk_13 rfl ?_
    exact ro_zret (a := 0) hx hb hr hlocks dX4_hasInk_14 ((b2i_f (by omega)).symm)
  · refine lv_iconst (v := iI (1)) hx hb dX4_hasInk_9 rfl ?_
    refine lv_goto (tgt := 14) hx hb dX4_hasInk_10 (by decide) ?_
    exact ro_zret (a := 1) hx hb hr hlocks dX4_hasInk_14 ((b2i_t (by omega)).symm)

def rmX0_isRow : Room := { frames := 0, cells := 0, slots := 0, locals := 0 }
set_option maxRecDepth 20000 in
theorem inX0_X0_isRow : ∀ w ∈ wsX00, w ∈ wsX0_isRow := by decide +kernel
set_option maxHeartbeats 4000000 in
set_option maxRecDepth 100000 in
theorem c_X0_isRow (lM : Launch) (G : GG) (h w M a : Nat) (z : Int) (h1 : M ≤ 16) (h2 : a ≤ 100) (h3 : -2147483648 ≤ z ∧ z < 2147483648) : Met lM yX0_isRow wsX0_isRow rmX0_isRow (ro G [.ref h, .int (iI (((a : Nat) : Int))), .int (iI (z))] [(h, .inr (0, [.int (iI (((M : Nat) : Int))), .ref w]))]) (roQ (.int (iI (b2i (decide (a < M ∧ 0 ≤ z ∧ z < 16)))))) 0 0 (fun _ => False) := by
  refine ro_of (cc := cX0_isRow) (maxL := 3) (ret := (some .boolean)) (by decide) rfl (Nat.le_of_ble_eq_true rfl) ?_
  intro pM eM sM mM bM tM cM hx hb hr hts hown hlocks hml hG hP ls hl
  have hown : sM.vm.findClass RX0 = some mM.cls := hown
  have hl : lv_has ls 3 [(0, .ref h), (1, .int (iI (((a : Nat) : Int)))), (2, .int (iI (z)))] := hl
  refine lv_iload_n hx hb dX0_isRow_0 rfl (lv_at hl 1 rfl) ?_
  refine k_if_lt (a := ((a : Nat) : Int)) (tgt := 26) hx hb (by omega) dX0_isRow_1 (by decide) (fun c_1 => ?_) (fun c_1 => ?_)
  · refine lv_iconst (v := iI (0)) hx hb dX0_isRow_26 rfl ?_
    exact ro_zret (a := 0) hx hb hr hlocks dX0_isRow_27 ((b2i_f (by omega)).symm)
  · refine lv_iload_n hx hb dX0_isRow_4 rfl (lv_at hl 1 rfl) ?_
    refine lv_aload_n hx hb dX0_isRow_5 rfl (lv_at hl 0 rfl) ?_
    refine va_get (D := G.1) (ci := 0) (v := .int (iI (((M : Nat) : Int)))) (C := RX0) (T := TX0) (N := 2) hx hb hts inX0_X0_isRow hown hG.1 hP 0 rfl rfl 0 (by decide) (hts (.fieldLink RX0 15 "InkOverInk$Layers" "many" "I") (by decide +kernel)) (fun _ h9 => h9) rfl dX0_isRow_6 ?_
    refine k_icmp_ge (a := ((a : Nat) : Int)) (b := ((M : Nat) : Int)) (tgt := 26) hx hb (by omega) (by omega) dX0_isRow_9 (by decide) (fun c_9 => ?_) (fun c_9 => ?_)
    · refine lv_iconst (v := iI (0)) hx hb dX0_isRow_26 rfl ?_
      exact ro_zret (a := 0) hx hb hr hlocks dX0_isRow_27 ((b2i_f (by omega)).symm)
    · refine lv_iload_n hx hb dX0_isRow_12 rfl (lv_at hl 2 rfl) ?_
      refine k_if_lt (a := z) (tgt := 26) hx hb (by omega) dX0_isRow_13 (by decide) (fun c_13 => ?_) (fun c_13 => ?_)
      · refine lv_iconst (v := iI (0)) hx hb dX0_isRow_26 rfl ?_
        exact ro_zret (a := 0) hx hb hr hlocks dX0_isRow_27 ((b2i_f (by omega)).symm)
      · refine lv_iload_n hx hb dX0_isRow_16 rfl (lv_at hl 2 rfl) ?_
        refine lv_bipush (v := iI (16)) hx hb dX0_isRow_17 (by decide) ?_
        refine k_icmp_ge (a := z) (b := 16) (tgt := 26) hx hb (by omega) (by omega) dX0_isRow_19 (by decide) (fun c_19 => ?_) (fun c_19 => ?_)
        · refine lv_iconst (v := iI (0)) hx hb dX0_isRow_26 rfl ?_
          exact ro_zret (a := 0) hx hb hr hlocks dX0_isRow_27 ((b2i_f (by omega)).symm)
        · refine lv_iconst (v := iI (1)) hx hb dX0_isRow_22 rfl ?_
          refine lv_goto (tgt := 27) hx hb dX0_isRow_23 (by decide) ?_
          exact ro_zret (a := 1) hx hb hr hlocks dX0_isRow_27 ((b2i_t (by omega)).symm)

def rmX0_bits : Room := { frames := 1, cells := 0, slots := 0, locals := 22 }
set_option maxRecDepth 20000 in
theorem inX0_X0_bits : ∀ w ∈ wsX00, w ∈ wsX0_bits := by decide +kernel
set_option maxHeartbeats 4000000 in
set_option maxRecDepth 100000 in
theorem c_X0_bits (lM : Launch) (G : GG) (h w M a : Nat) (F : Nat → Nat) (z : Int) (h1 : a < M) (h2 : M ≤ 16) (h3 : -1000 ≤ z ∧ z ≤ 1000) : Met lM yX0_bits wsX0_bits rmX0_bits (ro G [.ref h, .int (iI (((a : Nat) : Int))), .int (iI (z))] [(h, .inr (0, [.int (iI (((M : Nat) : Int))), .ref w])), (w, .inl (G.2 0, M * 16, .inl (fun iX => iI ((F iX : Nat) : Int))))]) (roQ (.int (iI (((lyW F a z : Nat) : Int))))) 0 0 (fun _ => False) := by
  refine ro_of (cc := cX0_bits) (maxL := 3) (ret := (some .int)) (by decide) rfl (Nat.le_of_ble_eq_true rfl) ?_
  intro pM eM sM mM bM tM cM hx hb hr hts hown hlocks hml hG hP ls hl
  have hown : sM.vm.findClass RX0 = some mM.cls := hown
  have hl : lv_has ls 3 [(0, .ref h), (1, .int (iI (((a : Nat) : Int)))), (2, .int (iI (z)))] := hl
  refine lv_aload_n hx hb dX0_bits_0 rfl (lv_at hl 0 rfl) ?_
  refine lv_iload_n hx hb dX0_bits_1 rfl (lv_at hl 1 rfl) ?_
  refine lv_iload_n hx hb dX0_bits_2 rfl (lv_at hl 2 rfl) ?_
  refine k_roV (rest := []) [.int (iI (((a : Nat) : Int))), .int (iI (z))] ⟨hx, hb, hml, hown, hts⟩ (c_X0_isRow lM G h w M a z (by omega) (by omega) (by omega)) (cwV 2 hts gX0_bits_X0_isRow rfl rfl rfl (by decide +kernel) ⟨Nat.le_of_ble_eq_true rfl, Nat.le_of_ble_eq_true rfl⟩) hG (va_recv hG.1 hP (ci := 0) (q0 := 0) rfl rfl) (hP.sub (ws' := [(h, .inr (0, [.int (iI (((M : Nat) : Int))), .ref w]))]) [0] rfl) rfl rfl hl.1 (Nat.le_of_ble_eq_true rfl) ⟨Nat.zero_le _, Nat.zero_le _⟩ dX0_bits_3 ?_
  refine k_ifD (P := a < M ∧ 0 ≤ z ∧ z < 16) (tgt := 23) hx hb dX0_bits_6 (by decide) (fun c_6 => ?_) (fun c_6 => ?_)
  · refine lv_iconst (v := iI (0)) hx hb dX0_bits_23 rfl ?_
    exact ro_iret (a := 0) hx hb hr hlocks dX0_bits_24 (by rw [lyW, if_neg (by omega)]; rfl)
  · obtain ⟨k, rfl⟩ : ∃ k : Nat, z = (k : Int) := ⟨(z).toNat, by omega⟩
    refine lv_aload_n hx hb dX0_bits_9 rfl (lv_at hl 0 rfl) ?_
    refine va_get (D := G.1) (ci := 0) (v := .ref w) (C := RX0) (T := TX0) (N := 2) hx hb hts inX0_X0_bits hown hG.1 hP 0 rfl rfl 1 (by decide) (hts (.fieldLink RX0 21 "InkOverInk$Layers" "words" "[I") (by decide +kernel)) (fun _ h9 => h9) rfl dX0_bits_10 ?_
    refine lv_iload_n hx hb dX0_bits_13 rfl (lv_at hl 1 rfl) ?_
    refine lv_bipush (v := iI (16)) hx hb dX0_bits_14 (by decide) ?_
    refine k_imulN (a := a) (b := 16) hx hb dX0_bits_16 ?_
    refine lv_iload_n hx hb dX0_bits_17 rfl (lv_at hl 2 rfl) ?_
    refine k_iaddN (a := (a * 16)) (b := k) hx hb dX0_bits_18 ?_
    refine k_ialdN (F := (fun iX => ((F iX : Nat) : Int))) (z := (a * 16) + k) hx hb hG hP 1 rfl (by omega) (by omega) dX0_bits_19 ?_
    refine lv_goto (tgt := 24) hx hb dX0_bits_20 (by decide) ?_
    exact ro_iret (a := ((F ((a * 16) + k) : Nat) : Int)) hx hb hr hlocks dX0_bits_24 (by rw [lyW, if_pos (by omega)]; rfl)
