/-! the model: what it reads of the page -/
abbrev shwP (PA : Nat → Nat) (rw cm i : Nat) (a b : Int) : Prop := celP rw cm a b ∧ (PA (16 * a + b).toNat >>> i) &&& 1 = 1
def shM (PA : Nat → Nat) (DR DC : Nat → Int) (cr : Int) (rw cm r c : Nat) : Nat → Nat
  | 0 => 0
  | i + 1 => if shwP PA rw cm i ((r : Int) - DR i) ((c : Int) - offC DC cr i c) then shM PA DR DC cr rw cm r c i ||| (1 <<< i) else shM PA DR DC cr rw cm r c i
theorem shM_lt {PA : Nat → Nat} {DR DC : Nat → Int} {cr : Int} {rw cm r c : Nat} : ∀ i, i ≤ 4 → shM PA DR DC cr rw cm r c i < 16
  | 0, _ => by show 0 < 16; decide
  | i + 1, h => by
    have h1 := shM_lt (PA := PA) (DR := DR) (DC := DC) (cr := cr) (rw := rw) (cm := cm) (r := r) (c := c) i (by omega)
    have h2 : 1 <<< i < 16 := by
      rcases (show i = 0 ∨ i = 1 ∨ i = 2 ∨ i = 3 by omega) with rfl | rfl | rfl | rfl <;> decide
    unfold shM
    split
    · exact Nat.or_lt_two_pow (n := 4) h1 h2
    · exact h1
abbrev barP (CA PA : Nat → Nat) (rw cm r c ink : Nat) (dw rt : Int) : Prop := CA (16 * r + c) ≠ 0 ∧ ∀ i, i < 4 → ¬ shwP PA rw cm i ((r : Int) - (if i = ink then dw else 0)) ((c : Int) - (if i = ink then rt else 0))
abbrev innP (CA : Nat → Nat) (FA : Nat → Bool) (rw cm r c n : Nat) : Prop := ∀ a, a < 2 * n + 1 → ∀ b, b < 2 * n + 1 → celP rw cm ((r : Int) - n + a) ((c : Int) - n + b) ∧ CA (16 * ((r : Int) - n + a) + ((c : Int) - n + b)).toNat ≠ 0 ∧ FA (16 * ((r : Int) - n + a) + ((c : Int) - n + b)).toNat = false
def barB (CA PA : Nat → Nat) (rw cm r c ink : Nat) (dw rt : Int) : Bool := decide (barP CA PA rw cm r c ink dw rt)
def innB (CA : Nat → Nat) (FA : Nat → Bool) (rw cm r c n : Nat) : Bool := decide (innP CA FA rw cm r c n)
abbrev styP (CA PA : Nat → Nat) (rw cm r c n : Nat) : Prop := ∀ i, i < 4 → ∀ a, a < 2 * n + 1 → ∀ b, b < 2 * n + 1 → barB CA PA rw cm r c i (-(n : Int) + a) (-(n : Int) + b) = false
def styB (CA PA : Nat → Nat) (rw cm r c n : Nat) : Bool := decide (styP CA PA rw cm r c n)
abbrev sfmP (CA : Nat → Nat) (FA : Nat → Bool) (PA : Nat → Nat) (rw cm n : Nat) : Prop := ∀ r, r < rw → ∀ c, c < cm → ¬ (innB CA FA rw cm r c n = true ∧ styB CA PA rw cm r c n = false)
theorem sf_row {P : Nat → Nat → Prop} {r c cm : Nat} (h1 : ∀ a, a < r → ∀ b, b < cm → P a b) (h2 : ∀ b, b < c → P r b) (hc : c = cm) : ∀ a, a < r + 1 → ∀ b, b < cm → P a b := by
  intro a ha b hb
  rcases Nat.lt_or_ge a r with g | g
  · exact h1 a g b hb
  · obtain rfl : a = r := by omega
    exact h2 b (by omega)
theorem sf_one {P : Nat → Prop} {k : Nat} (h1 : ∀ a, a < k → P a) (h2 : P k) : ∀ a, a < k + 1 → P a := by
  intro a ha
  rcases Nat.lt_or_ge a k with g | g
  · exact h1 a g
  · obtain rfl : a = k := by omega
    exact h2
theorem sf_nil {P : Nat → Prop} : ∀ a, a < 0 → P a := fun a h => absurd h (Nat.not_lt_zero a)
def rmX5_shows : Room := { frames := 2, cells := 0, slots := 0, locals := 44 }
set_option maxRecDepth 20000 in
theorem inX5_X5_shows : ∀ w ∈ wsX50, w ∈ wsX5_shows := by decide +kernel
set_option maxHeartbeats 4000000 in
set_option maxRecDepth 100000 in
theorem c_X5_shows (lM : Launch) (G : GG) (m a1 a2 a3 a4 a5 a6 a7 a8 a9 a10 a11 a12 a13 a14 a15 a16 a17 a19 a20 a21 a22 a23 : Nat) (fd : Bool) (i r c : Nat) (dw rt : Int) (MR : Nat → Nat) (MC : Nat → Nat) (PA : Nat → Nat) (h1 : i < 4) (h2 : r ≤ 16) (h3 : c ≤ 16) (h4 : -100 ≤ dw ∧ dw ≤ 100) (h5 : -100 ≤ rt ∧ rt ≤ 100) (h6 : MR 0 ≤ 16) (h7 : MC 0 ≤ 16) (h8 : ∀ k, PA k < 16) : Met lM yX5_shows wsX5_shows rmX5_shows (ro G [.ref m, .int (iI (((i : Nat) : Int))), .int (iI (((r : Nat) : Int))), .int (iI (((c : Nat) : Int))), .int (iI (dw)), .int (iI (rt))] [(m, .inr (5, [.int (iI (0)), .ref a1, .ref a2, .ref a3, .ref a4, .ref a5, .ref a6, .ref a7, .ref a8, .ref a9, .ref a10, .ref a11, .ref a12, .ref a13, .ref a14, .ref a15, .ref a16, .ref a17, .int (iI (b2i fd)), .ref a19, .ref a20, .ref a21, .ref a22, .ref a23])), (a1, .inl (G.2 0, 5, .inl (fun iX => iI ((MR iX : Nat) : Int)))), (a2, .inl (G.2 0, 5, .inl (fun iX => iI ((MC iX : Nat) : Int)))), (a22, .inl (G.2 0, 256, .inl (fun iX => iI ((PA iX : Nat) : Int))))]) (roQ (.int (iI (b2i (decide (shwP PA (MR 0) (MC 0) i ((r : Int) - dw) ((c : Int) - rt))))))) 0 0 (fun _ => False) := by
  refine ro_of (cc := cX5_shows) (maxL := 8) (ret := (some .boolean)) (by decide) rfl (Nat.le_of_ble_eq_true rfl) ?_
  intro pM eM sM mM bM tM cM hx hb hr hts hown hlocks hml hG hP ls hl
  have hown : sM.vm.findClass RX5 = some mM.cls := hown
  have hl : lv_has ls 8 [(0, .ref m), (1, .int (iI (((i : Nat) : Int)))), (2, .int (iI (((r : Nat) : Int)))), (3, .int (iI (((c : Nat) : Int)))), (4, .int (iI (dw))), (5, .int (iI (rt)))] := hl
  refine lv_iload_n hx hb dX5_shows_0 rfl (lv_at hl 2 rfl) ?_
  refine lv_iload hx hb dX5_shows_1 (lv_at hl 4 rfl) ?_
  refine k_isub (a := ((r : Nat) : Int)) (b := dw) hx hb dX5_shows_3 ?_
  refine lv_istore (lv' := [(6, .int (iI (((r : Nat) : Int) - dw))), (0, .ref m), (1, .int (iI (((i : Nat) : Int)))), (2, .int (iI (((r : Nat) : Int)))), (3, .int (iI (((c : Nat) : Int)))), (4, .int (iI (dw))), (5, .int (iI (rt)))]) hx hb dX5_shows_4 hl (by decide) rfl (fun ls hl => ?_)
  refine lv_iload_n hx hb dX5_shows_6 rfl (lv_at hl 4 rfl) ?_
  refine lv_iload hx hb dX5_shows_7 (lv_at hl 6 rfl) ?_
  refine k_isub (a := ((c : Nat) : Int)) (b := rt) hx hb dX5_shows_9 ?_
  refine lv_istore (lv' := [(7, .int (iI (((c : Nat) : Int) - rt))), (6, .int (iI (((r : Nat) : Int) - dw))), (0, .ref m), (1, .int (iI (((i : Nat) : Int)))), (2, .int (iI (((r : Nat) : Int)))), (3, .int (iI (((c : Nat) : Int)))), (4, .int (iI (dw))), (5, .int (iI (rt)))]) hx hb dX5_shows_10 hl (by decide) rfl (fun ls hl => ?_)
  refine lv_aload_n hx hb dX5_shows_12 rfl (lv_at hl 2 rfl) ?_
  refine lv_iload hx hb dX5_shows_13 (lv_at hl 1 rfl) ?_
  refine lv_iload hx hb dX5_shows_15 (lv_at hl 0 rfl) ?_
  refine k_roV (rest := []) [.int (iI (((r : Nat) : Int) - dw)), .int (iI (((c : Nat) : Int) - rt))] ⟨hx, hb, hml, hown, hts⟩ (c_X5_isCell lM G m a1 a2 a3 a4 a5 a6 a7 a8 a9 a10 a11 a12 a13 a14 a15 a16 a17 a19 a20 a21 a22 a23 fd (((r : Nat) : Int) - dw) (((c : Nat) : Int) - rt) MR MC (by omega) (by omega) (by omega) (by omega)) (cwV 2 hts gX5_shows_X5_isCell rfl rfl rfl (by decide +kernel) ⟨Nat.le_of_ble_eq_true rfl, Nat.le_of_ble_eq_true rfl⟩) hG (va_recv hG.1 hP (ci := 5) (q0 := 0) rfl rfl) (hP.sub (ws' := [(m, .inr (5, [.int (iI (0)), .ref a1, .ref a2, .ref a3, .ref a4, .ref a5, .ref a6, .ref a7, .ref a8, .ref a9, .ref a10, .ref a11, .ref a12, .ref a13, .ref a14, .ref a15, .ref a16, .ref a17, .int (iI (b2i fd)), .ref a19, .ref a20, .ref a21, .ref a22, .ref a23])), (a1, .inl (G.2 0, 5, .inl (fun iX => iI ((MR iX : Nat) : Int)))), (a2, .inl (G.2 0, 5, .inl (fun iX => iI ((MC iX : Nat) : Int))))]) [0, 1, 2] rfl) rfl rfl hl.1 (Nat.le_of_ble_eq_true rfl) ⟨Nat.zero_le _, Nat.zero_le _⟩ dX5_shows_17 ?_
  refine k_ifD (P := (0 ≤ (((r : Nat) : Int) - dw) ∧ (((r : Nat) : Int) - dw) ≤ (MR 0 : Int) - 1) ∧ (0 ≤ (((c : Nat) : Int) - rt) ∧ (((c : Nat) : Int) - rt) ≤ (MC 0 : Int) - 1)) (tgt := 47) hx hb dX5_shows_20 (by decide) (fun c_20 => ?_) (fun c_20 => ?_)
  · refine lv_iconst (v := iI (0)) hx hb dX5_shows_47 rfl ?_
    exact ro_zret (a := 0) hx hb hr hlocks dX5_shows_48 ((b2i_f (P := shwP PA (MR 0) (MC 0) i ((r : Int) - dw) ((c : Int) - rt)) (fun q => c_20 q.1)).symm)
  · refine lv_aload_n hx hb dX5_shows_23 rfl (lv_at hl 2 rfl) ?_
    refine va_get (D := G.1) (ci := 5) (v := .ref a22) (C := RX5) (T := TX5) (N := 24) hx hb hts inX5_X5_shows hown hG.1 hP 0 rfl rfl 22 (by decide) (hts (.fieldLink RX5 71 "InkOverInkModel" "platesAt" "[I") (by decide +kernel)) (fun _ h9 => h9) rfl dX5_shows_24 ?_
    refine lv_bipush (v := iI (16)) hx hb dX5_shows_27 (by decide) ?_
    refine lv_iload hx hb dX5_shows_29 (lv_at hl 1 rfl) ?_
    refine k_imul (a := 16) (b := ((r : Nat) : Int) - dw) hx hb dX5_shows_31 ?_
    refine lv_iload hx hb dX5_shows_32 (lv_at hl 0 rfl) ?_
    refine k_iadd (a := 16 * (((r : Nat) : Int) - dw)) (b := ((c : Nat) : Int) - rt) hx hb dX5_shows_34 ?_
    refine k_iald (F := (fun iX => ((PA iX : Nat) : Int))) (z := (16 * (((r : Nat) : Int) - dw)) + (((c : Nat) : Int) - rt)) hx hb hG hP 3 rfl (by omega) (by decide) dX5_shows_35 ?_
    have g8 := h8 (16 * ((r : Int) - dw) + ((c : Int) - rt)).toNat
    have g9 : (PA (16 * ((r : Int) - dw) + ((c : Int) - rt)).toNat >>> i) &&& 1 ≤ 1 := Nat.and_le_right
    refine lv_iload_n hx hb dX5_shows_36 rfl (lv_at hl 3 rfl) ?_
    refine k_ishr (a := PA (((16 * (((r : Nat) : Int) - dw)) + (((c : Nat) : Int) - rt)).toNat)) (b := i) hx hb (by omega) (by omega) dX5_shows_37 ?_
    refine lv_iconst (v := iI (1)) hx hb dX5_shows_38 rfl ?_
    refine k_iand (a := (PA (((16 * (((r : Nat) : Int) - dw)) + (((c : Nat) : Int) - rt)).toNat)) >>> i) (b := 1) hx hb dX5_shows_39 ?_
    refine k_if_eq (a := ((((PA (((16 * (((r : Nat) : Int) - dw)) + (((c : Nat) : Int) - rt)).toNat)) >>> i) &&& 1 : Nat) : Int)) (tgt := 47) hx hb (by omega) dX5_shows_40 (by decide) (fun c_40 => ?_) (fun c_40 => ?_)
    · refine lv_iconst (v := iI (0)) hx hb dX5_shows_47 rfl ?_
      exact ro_zret (a := 0) hx hb hr hlocks dX5_shows_48 ((b2i_f (P := shwP PA (MR 0) (MC 0) i ((r : Int) - dw) ((c : Int) - rt)) (fun q => by have := q.2; omega)).symm)
    · refine lv_iconst (v := iI (1)) hx hb dX5_shows_43 rfl ?_
      refine lv_goto (tgt := 48) hx hb dX5_shows_44 (by decide) ?_
      exact ro_zret (a := 1) hx hb hr hlocks dX5_shows_48 ((b2i_t (P := shwP PA (MR 0) (MC 0) i ((r : Int) - dw) ((c : Int) - rt)) ⟨c_20, by omega⟩).symm)

def rmX5_shown : Room := { frames := 3, cells := 0, slots := 0, locals := 71 }
set_option maxRecDepth 20000 in
theorem inX5_X5_shown : ∀ w ∈ wsX50, w ∈ wsX5_shown := by decide +kernel
set_option maxHeartbeats 4000000 in
set_option maxRecDepth 100000 in
theorem c_X5_shown (lM : Launch) (G : GG) (m a1 a2 a3 a4 a5 a6 a7 a8 a9 a10 a11 a12 a13 a14 a15 a16 a17 a19 a20 a21 a22 a23 : Nat) (fd : Bool) (r c : Nat) (MR : Nat → Nat) (MC : Nat → Nat) (DR : Nat → Int) (DC : Nat → Int) (CR : Nat → Int) (PA : Nat → Nat) (h1 : r ≤ 16) (h2 : c ≤ 16) (h3 : MR 0 ≤ 16) (h4 : MC 0 ≤ 16) (h5 : -8 ≤ CR 0 ∧ CR 0 ≤ 8) (h6 : ∀ k, -6 ≤ DR k ∧ DR k ≤ 6) (h7 : ∀ k, -6 ≤ DC k ∧ DC k ≤ 6) (h8 : ∀ k, PA k < 16) : Met lM yX5_shown wsX5_shown rmX5_shown (ro G [.ref m, .int (iI (((r : Nat) : Int))), .int (iI (((c : Nat) : Int)))] [(m, .inr (5, [.int (iI (0)), .ref a1, .ref a2, .ref a3, .ref a4, .ref a5, .ref a6, .ref a7, .ref a8, .ref a9, .ref a10, .ref a11, .ref a12, .ref a13, .ref a14, .ref a15, .ref a16, .ref a17, .int (iI (b2i fd)), .ref a19, .ref a20, .ref a21, .ref a22, .ref a23])), (a1, .inl (G.2 0, 5, .inl (fun iX => iI ((MR iX : Nat) : Int)))), (a2, .inl (G.2 0, 5, .inl (fun iX => iI ((MC iX : Nat) : Int)))), (a15, .inl (G.2 0, 20, .inl (fun iX => iI (DR iX)))), (a16, .inl (G.2 0, 20, .inl (fun iX => iI (DC iX)))), (a17, .inl (G.2 0, 5, .inl (fun iX => iI (CR iX)))), (a22, .inl (G.2 0, 256, .inl (fun iX => iI ((PA iX : Nat) : Int))))]) (roQ (.int (iI (((shM PA DR DC (CR 0) (MR 0) (MC 0) r c 4 : Nat) : Int))))) 0 0 (fun _ => False) := by
  refine ro_of (cc := cX5_shown) (maxL := 5) (ret := (some .int)) (by decide) rfl (Nat.le_of_ble_eq_true rfl) ?_
  intro pM eM sM mM bM tM cM hx hb hr hts hown hlocks hml hG hP ls hl
  have hown : sM.vm.findClass RX5 = some mM.cls := hown
  have hl : lv_has ls 5 [(0, .ref m), (1, .int (iI (((r : Nat) : Int)))), (2, .int (iI (((c : Nat) : Int))))] := hl
  refine lv_iconst (v := iI (0)) hx hb dX5_shown_0 rfl ?_
  refine lv_istore_n (lv' := [(3, .int (iI (0))), (0, .ref m), (1, .int (iI (((r : Nat) : Int)))), (2, .int (iI (((c : Nat) : Int))))]) hx hb dX5_shown_1 rfl hl (by decide) rfl (fun ls hl => ?_)
  refine lv_iconst (v := iI (0)) hx hb dX5_shown_2 rfl ?_
  refine lv_istore (lv' := [(4, .int (iI (0))), (3, .int (iI (0))), (0, .ref m), (1, .int (iI (((r : Nat) : Int)))), (2, .int (iI (((c : Nat) : Int))))]) hx hb dX5_shown_3 hl (by decide) rfl (fun ls hl => ?_)
  have loop_5 : ∀ (n_5 : Nat) (i x : Nat), (i ≤ 4) → (x = shM PA DR DC (CR 0) (MR 0) (MC 0) r c i) → 5 - i ≤ n_5 → ∀ ls : Array Slot, lv_has ls 5 [(0, .ref m), (1, .int (iI (((r : Nat) : Int)))), (2, .int (iI (((c : Nat) : Int)))), (3, .int (iI (((x : Nat) : Int)))), (4, .int (iI (((i : Nat) : Int))))] → W pM lM eM rmX5_shown sM mM ([.ref m, .int (iI (((r : Nat) : Int))), .int (iI (((c : Nat) : Int)))] : List Value).toArray bM tM cM sM.heap [] 0 0 (MQ bM (roQ (.int (iI (((shM PA DR DC (CR 0) (MR 0) (MC 0) r c 4 : Nat) : Int))))) ([.ref m, .int (iI (((r : Nat) : Int))), .int (iI (((c : Nat) : Int)))] : List Value).toArray sM 0 0 (fun _ => False)) (F0 mM 5 ls []) := by
    intro n_5
    induction n_5 with
    | zero =>
      intro i x hi hxx hm_5 ls hl
      exact absurd hm_5 (by omega)
    | succ n_5 ih_5 =>
      intro i x hi hxx hm_5 ls hl
      have g6 := h6 i
      have g7 := h7 i
      have gb := offC_bd (AC := DC) (cr := CR 0) (i := i) (c := c) (h7 i) h5 h2
      refine lv_iload hx hb dX5_shown_5 (lv_at hl 4 rfl) ?_
      refine lv_iconst (v := iI (4)) hx hb dX5_shown_7 rfl ?_
      refine k_icmp_ge (a := ((i : Nat) : Int)) (b := 4) (tgt := 59) hx hb (by omega) (by omega) dX5_shown_8 (by decide) (fun c_8 => ?_) (fun c_8 => ?_)
      · refine lv_iload_n hx hb dX5_shown_59 rfl (lv_at hl 3 rfl) ?_
        exact ro_iret (a := ((x : Nat) : Int)) hx hb hr hlocks dX5_shown_60 (by have e9 : i = 4 := (by omega); rw [hxx, e9])
      · refine lv_iload_n hx hb dX5_shown_11 rfl (lv_at hl 3 rfl) ?_
        refine lv_aload_n hx hb dX5_shown_12 rfl (lv_at hl 0 rfl) ?_
        refine lv_iload hx hb dX5_shown_13 (lv_at hl 4 rfl) ?_
        refine lv_iload_n hx hb dX5_shown_15 rfl (lv_at hl 1 rfl) ?_
        refine lv_iload_n hx hb dX5_shown_16 rfl (lv_at hl 2 rfl) ?_
        refine lv_aload_n hx hb dX5_shown_17 rfl (lv_at hl 0 rfl) ?_
        refine va_get (D := G.1) (ci := 5) (v := .ref a15) (C := RX5) (T := TX5) (N := 24) hx hb hts inX5_X5_shown hown hG.1 hP 0 rfl rfl 15 (by decide) (hts (.fieldLink RX5 52 "InkOverInkModel" "offRows" "[I") (by decide +kernel)) (fun _ h9 => h9) rfl dX5_shown_18 ?_
        refine lv_iload hx hb dX5_shown_21 (lv_at hl 4 rfl) ?_
        refine k_ialdN (F := DR) (z := i) hx hb hG hP 3 rfl (by omega) (by decide) dX5_shown_23 ?_
        refine lv_aload_n hx hb dX5_shown_24 rfl (lv_at hl 0 rfl) ?_
        refine va_get (D := G.1) (ci := 5) (v := .ref a16) (C := RX5) (T := TX5) (N := 24) hx hb hts inX5_X5_shown hown hG.1 hP 0 rfl rfl 16 (by decide) (hts (.fieldLink RX5 55 "InkOverInkModel" "offColumns" "[I") (by decide +kernel)) (fun _ h9 => h9) rfl dX5_shown_25 ?_
        refine lv_iload hx hb dX5_shown_28 (lv_at hl 4 rfl) ?_
        refine k_ialdN (F := DC) (z := i) hx hb hG hP 4 rfl (by omega) (by decide) dX5_shown_30 ?_
        refine lv_aload_n hx hb dX5_shown_31 rfl (lv_at hl 0 rfl) ?_
        refine lv_iload_n hx hb dX5_shown_32 rfl (lv_at hl 2 rfl) ?_
        refine k_roV (rest := [.int (iI (DC i)), .int (iI (DR i)), .int (iI (((c : Nat) : Int))), .int (iI (((r : Nat) : Int))), .int (iI (((i : Nat) : Int))), .ref m, .int (iI (((x : Nat) : Int)))]) [.int (iI (((c : Nat) : Int)))] ⟨hx, hb, hml, hown, hts⟩ (c_X5_creepAt lM G m a1 a2 a3 a4 a5 a6 a7 a8 a9 a10 a11 a12 a13 a14 a15 a16 a17 a19 a20 a21 a22 a23 fd c CR (by omega) (by omega)) (cwV 1 hts gX5_shown_X5_creepAt rfl rfl rfl (by decide +kernel) ⟨Nat.le_of_ble_eq_true rfl, Nat.le_of_ble_eq_true rfl⟩) hG (va_recv hG.1 hP (ci := 5) (q0 := 0) rfl rfl) (hP.sub (ws' := [(m, .inr (5, [.int (iI (0)), .ref a1, .ref a2, .ref a3, .ref a4, .ref a5, .ref a6, .ref a7, .ref a8, .ref a9, .ref a10, .ref a11, .ref a12, .ref a13, .ref a14, .ref a15, .ref a16, .ref a17, .int (iI (b2i fd)), .ref a19, .ref a20, .ref a21, .ref a22, .ref a23])), (a17, .inl (G.2 0, 5, .inl (fun iX => iI (CR iX))))]) [0, 5] rfl) rfl rfl hl.1 (Nat.le_of_ble_eq_true rfl) ⟨Nat.zero_le _, Nat.zero_le _⟩ dX5_shown_33 ?_
        refine k_iadd (a := DC i) (b := ((c : Int) * CR 0).tdiv 8) hx hb dX5_shown_36 ?_
        have eo : DC i + ((c : Int) * CR 0).tdiv 8 = offC DC (CR 0) i c := rfl
        rw [eo]
        refine k_roV (rest := [.int (iI (((x : Nat) : Int)))]) [.int (iI (((i : Nat) : Int))), .int (iI (((r : Nat) : Int))), .int (iI (((c : Nat) : Int))), .int (iI (DR i)), .int (iI (offC DC (CR 0) i c))] ⟨hx, hb, hml, hown, hts⟩ (c_X5_shows lM G m a1 a2 a3 a4 a5 a6 a7 a8 a9 a10 a11 a12 a13 a14 a15 a16 a17 a19 a20 a21 a22 a23 fd i r c (DR i) (offC DC (CR 0) i c) MR MC PA (by omega) (by omega) (by omega) (by omega) (by omega) (by omega) (by omega) h8) (cwV 5 hts gX5_shown_X5_shows rfl rfl rfl (by decide +kernel) ⟨Nat.le_of_ble_eq_true rfl, Nat.le_of_ble_eq_true rfl⟩) hG (va_recv hG.1 hP (ci := 5) (q0 := 0) rfl rfl) (hP.sub (ws' := [(m, .inr (5, [.int (iI (0)), .ref a1, .ref a2, .ref a3, .ref a4, .ref a5, .ref a6, .ref a7, .ref a8, .ref a9, .ref a10, .ref a11, .ref a12, .ref a13, .ref a14, .ref a15, .ref a16, .ref a17, .int (iI (b2i fd)), .ref a19, .ref a20, .ref a21, .ref a22, .ref a23])), (a1, .inl (G.2 0, 5, .inl (fun iX => iI ((MR iX : Nat) : Int)))), (a2, .inl (G.2 0, 5, .inl (fun iX => iI ((MC iX : Nat) : Int)))), (a22, .inl (G.2 0, 256, .inl (fun iX => iI ((PA iX : Nat) : Int))))]) [0, 1, 2, 6] rfl) rfl rfl hl.1 (Nat.le_of_ble_eq_true rfl) ⟨Nat.zero_le _, Nat.zero_le _⟩ dX5_shown_37 ?_
        refine k_ifD (P := shwP PA (MR 0) (MC 0) i ((r : Int) - (DR i)) ((c : Int) - (offC DC (CR 0) i c))) (tgt := 50) hx hb dX5_shown_40 (by decide) (fun c_40 => ?_) (fun c_40 => ?_)
        · refine lv_iconst (v := iI (0)) hx hb dX5_shown_50 rfl ?_
          refine k_ior (a := x) (b := 0) hx hb dX5_shown_51 ?_
          refine lv_istore_n (lv' := [(3, .int (iI (((x ||| 0 : Nat) : Int)))), (0, .ref m), (1, .int (iI (((r : Nat) : Int)))), (2, .int (iI (((c : Nat) : Int)))), (4, .int (iI (((i : Nat) : Int))))]) hx hb dX5_shown_52 rfl hl (by decide) rfl (fun ls hl => ?_)
          refine k_iincN (n := 1) (lv' := [(4, .int (iI (((i + 1 : Nat) : Int)))), (3, .int (iI (((x ||| 0 : Nat) : Int)))), (0, .ref m), (1, .int (iI (((r : Nat) : Int)))), (2, .int (iI (((c : Nat) : Int))))]) hx hb dX5_shown_53 hl (k := 4) rfl (by decide) rfl (fun ls hl => ?_)
          refine lv_goto (tgt := 5) hx hb dX5_shown_56 (by decide) ?_
          exact ih_5 (i + 1) (x ||| 0) (by omega) (by first | (rw [shM, if_pos c_40, hxx]; done) | (rw [shM, if_neg c_40, hxx, Nat.or_zero]; done)) (by omega) ls (lv_sub hl [2, 3, 4, 1, 0] rfl)
        · refine lv_iconst (v := iI (1)) hx hb dX5_shown_43 rfl ?_
          refine lv_iload hx hb dX5_shown_44 (lv_at hl 4 rfl) ?_
          refine k_ishl (a := 1) (b := i) hx hb (by omega) dX5_shown_46 ?_
          refine lv_goto (tgt := 51) hx hb dX5_shown_47 (by decide) ?_
          refine k_ior (a := x) (b := 1 <<< i) hx hb dX5_shown_51 ?_
          refine lv_istore_n (lv' := [(3, .int (iI (((x ||| (1 <<< i) : Nat) : Int)))), (0, .ref m), (1, .int (iI (((r : Nat) : Int)))), (2, .int (iI (((c : Nat) : Int)))), (4, .int (iI (((i : Nat) : Int))))]) hx hb dX5_shown_52 rfl hl (by decide) rfl (fun ls hl => ?_)
          refine k_iincN (n := 1) (lv' := [(4, .int (iI (((i + 1 : Nat) : Int)))), (3, .int (iI (((x ||| (1 <<< i) : Nat) : Int)))), (0, .ref m), (1, .int (iI (((r : Nat) : Int)))), (2, .int (iI (((c : Nat) : Int))))]) hx hb dX5_shown_53 hl (k := 4) rfl (by decide) rfl (fun ls hl => ?_)
          refine lv_goto (tgt := 5) hx hb dX5_shown_56 (by decide) ?_
          exact ih_5 (i + 1) (x ||| (1 <<< i)) (by omega) (by first | (rw [shM, if_pos c_40, hxx]; done) | (rw [shM, if_neg c_40, hxx, Nat.or_zero]; done)) (by omega) ls (lv_sub hl [2, 3, 4, 1, 0] rfl)
  exact loop_5 (5 - 0) 0 0 (by omega) rfl (Nat.le_refl _) ls (lv_sub hl [2, 3, 4, 1, 0] rfl)

def rmX5_isBareBy : Room := { frames := 3, cells := 0, slots := 0, locals := 71 }
set_option maxRecDepth 20000 in
theorem inX5_X5_isBareBy : ∀ w ∈ wsX50, w ∈ wsX5_isBareBy := by decide +kernel
set_option maxHeartbeats 4000000 in
set_option maxRecDepth 100000 in
theorem c_X5_isBareBy (lM : Launch) (G : GG) (m a1 a2 a3 a4 a5 a6 a7 a8 a9 a10 a11 a12 a13 a14 a15 a16 a17 a19 a20 a21 a22 a23 : Nat) (fd : Bool) (r c ink : Nat) (dw rt : Int) (MR : Nat → Nat) (MC : Nat → Nat) (CA : Nat → Nat) (PA : Nat → Nat) (h1 : r < 16) (h2 : c < 16) (h3 : ink < 4) (h4 : -100 ≤ dw ∧ dw ≤ 100) (h5 : -100 ≤ rt ∧ rt ≤ 100) (h6 : MR 0 ≤ 16) (h7 : MC 0 ≤ 16) (h8 : ∀ k, CA k < 16) (h9 : ∀ k, PA k < 16) : Met lM yX5_isBareBy wsX5_isBareBy rmX5_isBareBy (ro G [.ref m, .int (iI (((r : Nat) : Int))), .int (iI (((c : Nat) : Int))), .int (iI (((ink : Nat) : Int))), .int (iI (dw)), .int (iI (rt))] [(m, .inr (5, [.int (iI (0)), .ref a1, .ref a2, .ref a3, .ref a4, .ref a5, .ref a6, .ref a7, .ref a8, .ref a9, .ref a10, .ref a11, .ref a12, .ref a13, .ref a14, .ref a15, .ref a16, .ref a17, .int (iI (b2i fd)), .ref a19, .ref a20, .ref a21, .ref a22, .ref a23])), (a1, .inl (G.2 0, 5, .inl (fun iX => iI ((MR iX : Nat) : Int)))), (a2, .inl (G.2 0, 5, .inl (fun iX => iI ((MC iX : Nat) : Int)))), (a20, .inl (G.2 0, 256, .inl (fun iX => iI ((CA iX : Nat) : Int)))), (a22, .inl (G.2 0, 256, .inl (fun iX => iI ((PA iX : Nat) : Int))))]) (roQ (.int (iI (b2i (decide (barP CA PA (MR 0) (MC 0) r c ink dw rt)))))) 0 0 (fun _ => False) := by
  refine ro_of (cc := cX5_isBareBy) (maxL := 7) (ret := (some .boolean)) (by decide) rfl (Nat.le_of_ble_eq_true rfl) ?_
  intro pM eM sM mM bM tM cM hx hb hr hts hown hlocks hml hG hP ls hl
  have hown : sM.vm.findClass RX5 = some mM.cls := hown
  have hl : lv_has ls 7 [(0, .ref m), (1, .int (iI (((r : Nat) : Int)))), (2, .int (iI (((c : Nat) : Int)))), (3, .int (iI (((ink : Nat) : Int)))), (4, .int (iI (dw))), (5, .int (iI (rt)))] := hl
  refine lv_aload_n hx hb dX5_isBareBy_0 rfl (lv_at hl 0 rfl) ?_
  refine va_get (D := G.1) (ci := 5) (v := .ref a20) (C := RX5) (T := TX5) (N := 24) hx hb hts inX5_X5_isBareBy hown hG.1 hP 0 rfl rfl 20 (by decide) (hts (.fieldLink RX5 64 "InkOverInkModel" "colourAt" "[I") (by decide +kernel)) (fun _ h9 => h9) rfl dX5_isBareBy_1 ?_
  refine lv_bipush (v := iI (16)) hx hb dX5_isBareBy_4 (by decide) ?_
  refine lv_iload_n hx hb dX5_isBareBy_6 rfl (lv_at hl 1 rfl) ?_
  refine k_imulN (a := 16) (b := r) hx hb dX5_isBareBy_7 ?_
  refine lv_iload_n hx hb dX5_isBareBy_8 rfl (lv_at hl 2 rfl) ?_
  refine k_iaddN (a := (16 * r)) (b := c) hx hb dX5_isBareBy_9 ?_
  refine k_ialdN (F := (fun iX => ((CA iX : Nat) : Int))) (z := (16 * r) + c) hx hb hG hP 3 rfl (by omega) (by decide) dX5_isBareBy_10 ?_
  refine k_if_ne (a := ((CA ((16 * r) + c) : Nat) : Int)) (tgt := 16) hx hb (by have := h8 (16 * r + c); omega) dX5_isBareBy_11 (by decide) (fun c_11 => ?_) (fun c_11 => ?_)
  · refine lv_iconst (v := iI (0)) hx hb dX5_isBareBy_16 rfl ?_
    refine lv_istore (lv' := [(6, .int (iI (0))), (0, .ref m), (1, .int (iI (((r : Nat) : Int)))), (2, .int (iI (((c : Nat) : Int)))), (3, .int (iI (((ink : Nat) : Int)))), (4, .int (iI (dw))), (5, .int (iI (rt)))]) hx hb dX5_isBareBy_17 hl (by decide) rfl (fun ls hl => ?_)
    have loop_19 : ∀ (n_19 : Nat) (i : Nat), (i ≤ 4) → (∀ k, k < i → ¬ shwP PA (MR 0) (MC 0) k ((r : Int) - (if k = ink then dw else 0)) ((c : Int) - (if k = ink then rt else 0))) → 5 - i ≤ n_19 → ∀ ls : Array Slot, lv_has ls 7 [(0, .ref m), (1, .int (iI (((r : Nat) : Int)))), (2, .int (iI (((c : Nat) : Int)))), (3, .int (iI (((ink : Nat) : Int)))), (4, .int (iI (dw))), (5, .int (iI (rt))), (6, .int (iI (((i : Nat) : Int))))] → W pM lM eM rmX5_isBareBy sM mM ([.ref m, .int (iI (((r : Nat) : Int))), .int (iI (((c : Nat) : Int))), .int (iI (((ink : Nat) : Int))), .int (iI (dw)), .int (iI (rt))] : List Value).toArray bM tM cM sM.heap [] 0 0 (MQ bM (roQ (.int (iI (b2i (decide (barP CA PA (MR 0) (MC 0) r c ink dw rt)))))) ([.ref m, .int (iI (((r : Nat) : Int))), .int (iI (((c : Nat) : Int))), .int (iI (((ink : Nat) : Int))), .int (iI (dw)), .int (iI (rt))] : List Value).toArray sM 0 0 (fun _ => False)) (F0 mM 19 ls []) := by
      intro n_19
      induction n_19 with
      | zero =>
        intro i hi hal hm_19 ls hl
        exact absurd hm_19 (by omega)
      | succ n_19 ih_19 =>
        intro i hi hal hm_19 ls hl
        refine lv_iload hx hb dX5_isBareBy_19 (lv_at hl 6 rfl) ?_
        refine lv_iconst (v := iI (4)) hx hb dX5_isBareBy_21 rfl ?_
        refine k_icmp_ge (a := ((i : Nat) : Int)) (b := 4) (tgt := 68) hx hb (by omega) (by omega) dX5_isBareBy_22 (by decide) (fun c_22 => ?_) (fun c_22 => ?_)
        · refine lv_iconst (v := iI (1)) hx hb dX5_isBareBy_68 rfl ?_
          exact ro_zret (a := 1) hx hb hr hlocks dX5_isBareBy_69 ((b2i_t (P := barP CA PA (MR 0) (MC 0) r c ink dw rt) ⟨by omega, fun k hk => hal k (by omega)⟩).symm)
        · refine lv_aload_n hx hb dX5_isBareBy_25 rfl (lv_at hl 0 rfl) ?_
          refine lv_iload hx hb dX5_isBareBy_26 (lv_at hl 6 rfl) ?_
          refine lv_iload_n hx hb dX5_isBareBy_28 rfl (lv_at hl 1 rfl) ?_
          refine lv_iload_n hx hb dX5_isBareBy_29 rfl (lv_at hl 2 rfl) ?_
          refine lv_iload hx hb dX5_isBareBy_30 (lv_at hl 6 rfl) ?_
          refine lv_iload_n hx hb dX5_isBareBy_32 rfl (lv_at hl 3 rfl) ?_
          refine k_icmp_ne (a := ((i : Nat) : Int)) (b := ((ink : Nat) : Int)) (tgt := 41) hx hb (by omega) (by omega) dX5_isBareBy_33 (by decide) (fun c_33 => ?_) (fun c_33 => ?_)
          · refine lv_iconst (v := iI (0)) hx hb dX5_isBareBy_41 rfl ?_
            refine lv_iload hx hb dX5_isBareBy_42 (lv_at hl 6 rfl) ?_
            refine lv_iload_n hx hb dX5_isBareBy_44 rfl (lv_at hl 3 rfl) ?_
            refine k_icmp_ne (a := ((i : Nat) : Int)) (b := ((ink : Nat) : Int)) (tgt := 53) hx hb (by omega) (by omega) dX5_isBareBy_45 (by decide) (fun c_45 => ?_) (fun c_45 => ?_)
            · refine lv_iconst (v := iI (0)) hx hb dX5_isBareBy_53 rfl ?_
              refine k_roV (rest := []) [.int (iI (((i : Nat) : Int))), .int (iI (((r : Nat) : Int))), .int (iI (((c : Nat) : Int))), .int (iI (0)), .int (iI (0))] ⟨hx, hb, hml, hown, hts⟩ (c_X5_shows lM G m a1 a2 a3 a4 a5 a6 a7 a8 a9 a10 a11 a12 a13 a14 a15 a16 a17 a19 a20 a21 a22 a23 fd i r c 0 0 MR MC PA (by omega) (by omega) (by omega) (by omega) (by omega) (by omega) (by omega) h9) (cwV 5 hts gX5_isBareBy_X5_shows rfl rfl rfl (by decide +kernel) ⟨Nat.le_of_ble_eq_true rfl, Nat.le_of_ble_eq_true rfl⟩) hG (va_recv hG.1 hP (ci := 5) (q0 := 0) rfl rfl) (hP.sub (ws' := [(m, .inr (5, [.int (iI (0)), .ref a1, .ref a2, .ref a3, .ref a4, .ref a5, .ref a6, .ref a7, .ref a8, .ref a9, .ref a10, .ref a11, .ref a12, .ref a13, .ref a14, .ref a15, .ref a16, .ref a17, .int (iI (b2i fd)), .ref a19, .ref a20, .ref a21, .ref a22, .ref a23])), (a1, .inl (G.2 0, 5, .inl (fun iX => iI ((MR iX : Nat) : Int)))), (a2, .inl (G.2 0, 5, .inl (fun iX => iI ((MC iX : Nat) : Int)))), (a22, .inl (G.2 0, 256, .inl (fun iX => iI ((PA iX : Nat) : Int))))]) [0, 1, 2, 4] rfl) rfl rfl hl.1 (Nat.le_of_ble_eq_true rfl) ⟨Nat.zero_le _, Nat.zero_le _⟩ dX5_isBareBy_54 ?_
              refine k_ifD (P := shwP PA (MR 0) (MC 0) i ((r : Int) - 0) ((c : Int) - 0)) (tgt := 62) hx hb dX5_isBareBy_57 (by decide) (fun c_57 => ?_) (fun c_57 => ?_)
              · refine k_iincN (n := 1) (lv' := [(6, .int (iI (((i + 1 : Nat) : Int)))), (0, .ref m), (1, .int (iI (((r : Nat) : Int)))), (2, .int (iI (((c : Nat) : Int)))), (3, .int (iI (((ink : Nat) : Int)))), (4, .int (iI (dw))), (5, .int (iI (rt)))]) hx hb dX5_isBareBy_62 hl (k := 6) rfl (by decide) rfl (fun ls hl => ?_)
                refine lv_goto (tgt := 19) hx hb dX5_isBareBy_65 (by decide) ?_
                exact ih_19 (i + 1) (by omega) (sf_one hal (by first | (rw [if_pos (by omega), if_pos (by omega)]; exact c_57) | (rw [if_neg (by omega), if_neg (by omega)]; exact c_57))) (by omega) ls (lv_sub hl [1, 2, 3, 4, 5, 6, 0] rfl)
              · refine lv_iconst (v := iI (0)) hx hb dX5_isBareBy_60 rfl ?_
                exact ro_zret (a := 0) hx hb hr hlocks dX5_isBareBy_61 ((b2i_f (P := barP CA PA (MR 0) (MC 0) r c ink dw rt) (fun q => q.2 i (by omega) (by first | (rw [if_pos (by omega), if_pos (by omega)]; exact c_57) | (rw [if_neg (by omega), if_neg (by omega)]; exact c_57)))).symm)
            · exact absurd c_45 c_33
          · refine lv_iload hx hb dX5_isBareBy_36 (lv_at hl 4 rfl) ?_
            refine lv_goto (tgt := 42) hx hb dX5_isBareBy_38 (by decide) ?_
            refine lv_iload hx hb dX5_isBareBy_42 (lv_at hl 6 rfl) ?_
            refine lv_iload_n hx hb dX5_isBareBy_44 rfl (lv_at hl 3 rfl) ?_
            refine k_icmp_ne (a := ((i : Nat) : Int)) (b := ((ink : Nat) : Int)) (tgt := 53) hx hb (by omega) (by omega) dX5_isBareBy_45 (by decide) (fun c_45 => ?_) (fun c_45 => ?_)
            · exact absurd c_33 c_45
            · refine lv_iload hx hb dX5_isBareBy_48 (lv_at hl 5 rfl) ?_
              refine lv_goto (tgt := 54) hx hb dX5_isBareBy_50 (by decide) ?_
              refine k_roV (rest := []) [.int (iI (((i : Nat) : Int))), .int (iI (((r : Nat) : Int))), .int (iI (((c : Nat) : Int))), .int (iI (dw)), .int (iI (rt))] ⟨hx, hb, hml, hown, hts⟩ (c_X5_shows lM G m a1 a2 a3 a4 a5 a6 a7 a8 a9 a10 a11 a12 a13 a14 a15 a16 a17 a19 a20 a21 a22 a23 fd i r c dw rt MR MC PA (by omega) (by omega) (by omega) (by omega) (by omega) (by omega) (by omega) h9) (cwV 5 hts gX5_isBareBy_X5_shows rfl rfl rfl (by decide +kernel) ⟨Nat.le_of_ble_eq_true rfl, Nat.le_of_ble_eq_true rfl⟩) hG (va_recv hG.1 hP (ci := 5) (q0 := 0) rfl rfl) (hP.sub (ws' := [(m, .inr (5, [.int (iI (0)), .ref a1, .ref a2, .ref a3, .ref a4, .ref a5, .ref a6, .ref a7, .ref a8, .ref a9, .ref a10, .ref a11, .ref a12, .ref a13, .ref a14, .ref a15, .ref a16, .ref a17, .int (iI (b2i fd)), .ref a19, .ref a20, .ref a21, .ref a22, .ref a23])), (a1, .inl (G.2 0, 5, .inl (fun iX => iI ((MR iX : Nat) : Int)))), (a2, .inl (G.2 0, 5, .inl (fun iX => iI ((MC iX : Nat) : Int)))), (a22, .inl (G.2 0, 256, .inl (fun iX => iI ((PA iX : Nat) : Int))))]) [0, 1, 2, 4] rfl) rfl rfl hl.1 (Nat.le_of_ble_eq_true rfl) ⟨Nat.zero_le _, Nat.zero_le _⟩ dX5_isBareBy_54 ?_
              refine k_ifD (P := shwP PA (MR 0) (MC 0) i ((r : Int) - dw) ((c : Int) - rt)) (tgt := 62) hx hb dX5_isBareBy_57 (by decide) (fun c_57 => ?_) (fun c_57 => ?_)
              · refine k_iincN (n := 1) (lv' := [(6, .int (iI (((i + 1 : Nat) : Int)))), (0, .ref m), (1, .int (iI (((r : Nat) : Int)))), (2, .int (iI (((c : Nat) : Int)))), (3, .int (iI (((ink : Nat) : Int)))), (4, .int (iI (dw))), (5, .int (iI (rt)))]) hx hb dX5_isBareBy_62 hl (k := 6) rfl (by decide) rfl (fun ls hl => ?_)
                refine lv_goto (tgt := 19) hx hb dX5_isBareBy_65 (by decide) ?_
                exact ih_19 (i + 1) (by omega) (sf_one hal (by first | (rw [if_pos (by omega), if_pos (by omega)]; exact c_57) | (rw [if_neg (by omega), if_neg (by omega)]; exact c_57))) (by omega) ls (lv_sub hl [1, 2, 3, 4, 5, 6, 0] rfl)
              · refine lv_iconst (v := iI (0)) hx hb dX5_isBareBy_60 rfl ?_
                exact ro_zret (a := 0) hx hb hr hlocks dX5_isBareBy_61 ((b2i_f (P := barP CA PA (MR 0) (MC 0) r c ink dw rt) (fun q => q.2 i (by omega) (by first | (rw [if_pos (by omega), if_pos (by omega)]; exact c_57) | (rw [if_neg (by omega), if_neg (by omega)]; exact c_57)))).symm)
    exact loop_19 (5 - 0) 0 (by omega) sf_nil (Nat.le_refl _) ls (lv_sub hl [1, 2, 3, 4, 5, 6, 0] rfl)
  · refine lv_iconst (v := iI (0)) hx hb dX5_isBareBy_14 rfl ?_
    exact ro_zret (a := 0) hx hb hr hlocks dX5_isBareBy_15 ((b2i_f (P := barP CA PA (MR 0) (MC 0) r c ink dw rt) (fun q => q.1 (by omega))).symm)

def rmX5_isInner : Room := { frames := 2, cells := 0, slots := 0, locals := 44 }
set_option maxRecDepth 20000 in
theorem inX5_X5_isInner : ∀ w ∈ wsX50, w ∈ wsX5_isInner := by decide +kernel
set_option maxHeartbeats 4000000 in
set_option maxRecDepth 100000 in
theorem c_X5_isInner (lM : Launch) (G : GG) (m a1 a2 a3 a4 a5 a6 a7 a8 a9 a10 a11 a12 a13 a14 a15 a16 a17 a19 a20 a21 a22 a23 : Nat) (fd : Bool) (r c n : Nat) (MR : Nat → Nat) (MC : Nat → Nat) (CA : Nat → Nat) (FA : Nat → Bool) (h1 : r < 16) (h2 : c < 16) (h3 : n ≤ 15) (h4 : MR 0 ≤ 16) (h5 : MC 0 ≤ 16) (h6 : ∀ k, CA k < 16) : Met lM yX5_isInner wsX5_isInner rmX5_isInner (ro G [.ref m, .int (iI (((r : Nat) : Int))), .int (iI (((c : Nat) : Int))), .int (iI (((n : Nat) : Int)))] [(m, .inr (5, [.int (iI (0)), .ref a1, .ref a2, .ref a3, .ref a4, .ref a5, .ref a6, .ref a7, .ref a8, .ref a9, .ref a10, .ref a11, .ref a12, .ref a13, .ref a14, .ref a15, .ref a16, .ref a17, .int (iI (b2i fd)), .ref a19, .ref a20, .ref a21, .ref a22, .ref a23])), (a1, .inl (G.2 0, 5, .inl (fun iX => iI ((MR iX : Nat) : Int)))), (a2, .inl (G.2 0, 5, .inl (fun iX => iI ((MC iX : Nat) : Int)))), (a20, .inl (G.2 0, 256, .inl (fun iX => iI ((CA iX : Nat) : Int)))), (a21, .inl (G.2 1, 256, .inl (fun iX => iI (b2i (FA iX)))))]) (roQ (.int (iI (b2i (decide (innP CA FA (MR 0) (MC 0) r c n)))))) 0 0 (fun _ => False) := by
  refine ro_of (cc := cX5_isInner) (maxL := 6) (ret := (some .boolean)) (by decide) rfl (Nat.le_of_ble_eq_true rfl) ?_
  intro pM eM sM mM bM tM cM hx hb hr hts hown hlocks hml hG hP ls hl
  have hown : sM.vm.findClass RX5 = some mM.cls := hown
  have hl : lv_has ls 6 [(0, .ref m), (1, .int (iI (((r : Nat) : Int)))), (2, .int (iI (((c : Nat) : Int)))), (3, .int (iI (((n : Nat) : Int))))] := hl
  refine lv_iload_n hx hb dX5_isInner_0 rfl (lv_at hl 1 rfl) ?_
  refine lv_iload_n hx hb dX5_isInner_1 rfl (lv_at hl 3 rfl) ?_
  refine k_isub (a := ((r : Nat) : Int)) (b := ((n : Nat) : Int)) hx hb dX5_isInner_2 ?_
  refine lv_istore (lv' := [(4, .int (iI (((r : Nat) : Int) - ((n : Nat) : Int)))), (0, .ref m), (1, .int (iI (((r : Nat) : Int)))), (2, .int (iI (((c : Nat) : Int)))), (3, .int (iI (((n : Nat) : Int))))]) hx hb dX5_isInner_3 hl (by decide) rfl (fun ls hl => ?_)
  have loop_5 : ∀ (n_5 : Nat) (a : Nat) (i : Int), (a ≤ 2 * n + 1) → (i = (r : Int) - n + a) → (∀ a2, a2 < a → ∀ b, b < 2 * n + 1 → celP (MR 0) (MC 0) ((r : Int) - n + (a2 : Nat)) ((c : Int) - n + (b : Nat)) ∧ CA (16 * ((r : Int) - n + (a2 : Nat)) + ((c : Int) - n + (b : Nat))).toNat ≠ 0 ∧ FA (16 * ((r : Int) - n + (a2 : Nat)) + ((c : Int) - n + (b : Nat))).toNat = false) → 2 * n + 2 - a ≤ n_5 → ∀ ls : Array Slot, lv_has ls 6 [(0, .ref m), (1, .int (iI (((r : Nat) : Int)))), (2, .int (iI (((c : Nat) : Int)))), (3, .int (iI (((n : Nat) : Int)))), (4, .int (iI (i)))] → W pM lM eM rmX5_isInner sM mM ([.ref m, .int (iI (((r : Nat) : Int))), .int (iI (((c : Nat) : Int))), .int (iI (((n : Nat) : Int)))] : List Value).toArray bM tM cM sM.heap [] 0 0 (MQ bM (roQ (.int (iI (b2i (decide (innP CA FA (MR 0) (MC 0) r c n)))))) ([.ref m, .int (iI (((r : Nat) : Int))), .int (iI (((c : Nat) : Int))), .int (iI (((n : Nat) : Int)))] : List Value).toArray sM 0 0 (fun _ => False)) (F0 mM 5 ls []) := by
    intro n_5
    induction n_5 with
    | zero =>
      intro a i ha hii hal hm_5 ls hl
      exact absurd hm_5 (by omega)
    | succ n_5 ih_5 =>
      intro a i ha hii hal hm_5 ls hl
      refine lv_iload hx hb dX5_isInner_5 (lv_at hl 4 rfl) ?_
      refine lv_iload_n hx hb dX5_isInner_7 rfl (lv_at hl 1 rfl) ?_
      refine lv_iload_n hx hb dX5_isInner_8 rfl (lv_at hl 3 rfl) ?_
      refine k_iaddN (a := r) (b := n) hx hb dX5_isInner_9 ?_
      refine k_icmp_gt (a := i) (b := ((r + n : Nat) : Int)) (tgt := 83) hx hb (by omega) (by omega) dX5_isInner_10 (by decide) (fun c_10 => ?_) (fun c_10 => ?_)
      · refine lv_iconst (v := iI (1)) hx hb dX5_isInner_83 rfl ?_
        exact ro_zret (a := 1) hx hb hr hlocks dX5_isInner_84 ((b2i_t (P := innP CA FA (MR 0) (MC 0) r c n) (fun a2 ha2 b2 hb2 => hal a2 (by omega) b2 hb2)).symm)
      · refine lv_iload_n hx hb dX5_isInner_13 rfl (lv_at hl 2 rfl) ?_
        refine lv_iload_n hx hb dX5_isInner_14 rfl (lv_at hl 3 rfl) ?_
        refine k_isub (a := ((c : Nat) : Int)) (b := ((n : Nat) : Int)) hx hb dX5_isInner_15 ?_
        refine lv_istore (lv' := [(5, .int (iI (((c : Nat) : Int) - ((n : Nat) : Int)))), (0, .ref m), (1, .int (iI (((r : Nat) : Int)))), (2, .int (iI (((c : Nat) : Int)))), (3, .int (iI (((n : Nat) : Int)))), (4, .int (iI (i)))]) hx hb dX5_isInner_16 hl (by decide) rfl (fun ls hl => ?_)
        have loop_18 : ∀ (n_18 : Nat) (b : Nat) (j : Int), (b ≤ 2 * n + 1) → (j = (c : Int) - n + b) → (∀ b2, b2 < b → celP (MR 0) (MC 0) ((r : Int) - n + (a : Nat)) ((c : Int) - n + (b2 : Nat)) ∧ CA (16 * ((r : Int) - n + (a : Nat)) + ((c : Int) - n + (b2 : Nat))).toNat ≠ 0 ∧ FA (16 * ((r : Int) - n + (a : Nat)) + ((c : Int) - n + (b2 : Nat))).toNat = false) → 2 * n + 2 - b ≤ n_18 → ∀ ls : Array Slot, lv_has ls 6 [(0, .ref m), (1, .int (iI (((r : Nat) : Int)))), (2, .int (iI (((c : Nat) : Int)))), (3, .int (iI (((n : Nat) : Int)))), (4, .int (iI (i))), (5, .int (iI (j)))] → W pM lM eM rmX5_isInner sM mM ([.ref m, .int (iI (((r : Nat) : Int))), .int (iI (((c : Nat) : Int))), .int (iI (((n : Nat) : Int)))] : List Value).toArray bM tM cM sM.heap [] 0 0 (MQ bM (roQ (.int (iI (b2i (decide (innP CA FA (MR 0) (MC 0) r c n)))))) ([.ref m, .int (iI (((r : Nat) : Int))), .int (iI (((c : Nat) : Int))), .int (iI (((n : Nat) : Int)))] : List Value).toArray sM 0 0 (fun _ => False)) (F0 mM 18 ls []) := by
          intro n_18
          induction n_18 with
          | zero =>
            intro b j hb9 hjj hrow hm_18 ls hl
            exact absurd hm_18 (by omega)
          | succ n_18 ih_18 =>
            intro b j hb9 hjj hrow hm_18 ls hl
            refine lv_iload hx hb dX5_isInner_18 (lv_at hl 5 rfl) ?_
            refine lv_iload_n hx hb dX5_isInner_20 rfl (lv_at hl 2 rfl) ?_
            refine lv_iload_n hx hb dX5_isInner_21 rfl (lv_at hl 3 rfl) ?_
            refine k_iaddN (a := c) (b := n) hx hb dX5_isInner_22 ?_
            refine k_icmp_gt (a := j) (b := ((c + n : Nat) : Int)) (tgt := 77) hx hb (by omega) (by omega) dX5_isInner_23 (by decide) (fun c_23 => ?_) (fun c_23 => ?_)
            · refine k_iinc (lv' := [(4, .int (iI (i + (1)))), (0, .ref m), (1, .int (iI (((r : Nat) : Int)))), (2, .int (iI (((c : Nat) : Int)))), (3, .int (iI (((n : Nat) : Int)))), (5, .int (iI (j)))]) hx hb dX5_isInner_77 hl (k := 4) rfl (by decide) rfl (fun ls hl => ?_)
              refine lv_goto (tgt := 5) hx hb dX5_isInner_80 (by decide) ?_
              exact ih_5 (a + 1) (i + 1) (by omega) (by omega) (sf_one hal (fun b2 hb2 => hrow b2 (by omega))) (by omega) ls (lv_sub hl [1, 2, 3, 4, 0] rfl)
            · refine lv_aload_n hx hb dX5_isInner_26 rfl (lv_at hl 0 rfl) ?_
              refine lv_iload hx hb dX5_isInner_27 (lv_at hl 4 rfl) ?_
              refine lv_iload hx hb dX5_isInner_29 (lv_at hl 5 rfl) ?_
              refine k_roV (rest := []) [.int (iI (i)), .int (iI (j))] ⟨hx, hb, hml, hown, hts⟩ (c_X5_isCell lM G m a1 a2 a3 a4 a5 a6 a7 a8 a9 a10 a11 a12 a13 a14 a15 a16 a17 a19 a20 a21 a22 a23 fd i j MR MC (by omega) (by omega) (by omega) (by omega)) (cwV 2 hts gX5_isInner_X5_isCell rfl rfl rfl (by decide +kernel) ⟨Nat.le_of_ble_eq_true rfl, Nat.le_of_ble_eq_true rfl⟩) hG (va_recv hG.1 hP (ci := 5) (q0 := 0) rfl rfl) (hP.sub (ws' := [(m, .inr (5, [.int (iI (0)), .ref a1, .ref a2, .ref a3, .ref a4, .ref a5, .ref a6, .ref a7, .ref a8, .ref a9, .ref a10, .ref a11, .ref a12, .ref a13, .ref a14, .ref a15, .ref a16, .ref a17, .int (iI (b2i fd)), .ref a19, .ref a20, .ref a21, .ref a22, .ref a23])), (a1, .inl (G.2 0, 5, .inl (fun iX => iI ((MR iX : Nat) : Int)))), (a2, .inl (G.2 0, 5, .inl (fun iX => iI ((MC iX : Nat) : Int))))]) [0, 1, 2] rfl) rfl rfl hl.1 (Nat.le_of_ble_eq_true rfl) ⟨Nat.zero_le _, Nat.zero_le _⟩ dX5_isInner_31 ?_
              refine k_ifD (P := (0 ≤ i ∧ i ≤ (MR 0 : Int) - 1) ∧ (0 ≤ j ∧ j ≤ (MC 0 : Int) - 1)) (tgt := 69) hx hb dX5_isInner_34 (by decide) (fun c_34 => ?_) (fun c_34 => ?_)
              · refine lv_iconst (v := iI (0)) hx hb dX5_isInner_69 rfl ?_
                exact ro_zret (a := 0) hx hb hr hlocks dX5_isInner_70 ((b2i_f (P := innP CA FA (MR 0) (MC 0) r c n) (fun q => by have q1 := q a (by omega) b (by omega); rw [← hii, ← hjj] at q1; exact c_34 q1.1)).symm)
              · refine lv_aload_n hx hb dX5_isInner_37 rfl (lv_at hl 0 rfl) ?_
                refine va_get (D := G.1) (ci := 5) (v := .ref a20) (C := RX5) (T := TX5) (N := 24) hx hb hts inX5_X5_isInner hown hG.1 hP 0 rfl rfl 20 (by decide) (hts (.fieldLink RX5 64 "InkOverInkModel" "colourAt" "[I") (by decide +kernel)) (fun _ h9 => h9) rfl dX5_isInner_38 ?_
                refine lv_bipush (v := iI (16)) hx hb dX5_isInner_41 (by decide) ?_
                refine lv_iload hx hb dX5_isInner_43 (lv_at hl 4 rfl) ?_
                refine k_imul (a := 16) (b := i) hx hb dX5_isInner_45 ?_
                refine lv_iload hx hb dX5_isInner_46 (lv_at hl 5 rfl) ?_
                refine k_iadd (a := 16 * i) (b := j) hx hb dX5_isInner_48 ?_
                refine k_iald (F := (fun iX => ((CA iX : Nat) : Int))) (z := (16 * i) + j) hx hb hG hP 3 rfl (by omega) (by decide) dX5_isInner_49 ?_
                refine k_if_eq (a := ((CA (((16 * i) + j).toNat) : Nat) : Int)) (tgt := 69) hx hb (by have := h6 (16 * i + j).toNat; omega) dX5_isInner_50 (by decide) (fun c_50 => ?_) (fun c_50 => ?_)
                · refine lv_iconst (v := iI (0)) hx hb dX5_isInner_69 rfl ?_
                  exact ro_zret (a := 0) hx hb hr hlocks dX5_isInner_70 ((b2i_f (P := innP CA FA (MR 0) (MC 0) r c n) (fun q => by have q1 := q a (by omega) b (by omega); rw [← hii, ← hjj] at q1; exact q1.2.1 (by omega))).symm)
                · refine lv_aload_n hx hb dX5_isInner_53 rfl (lv_at hl 0 rfl) ?_
                  refine va_get (D := G.1) (ci := 5) (v := .ref a21) (C := RX5) (T := TX5) (N := 24) hx hb hts inX5_X5_isInner hown hG.1 hP 0 rfl rfl 21 (by decide) (hts (.fieldLink RX5 67 "InkOverInkModel" "fineAt" "[Z") (by decide +kernel)) (fun _ h9 => h9) rfl dX5_isInner_54 ?_
                  refine lv_bipush (v := iI (16)) hx hb dX5_isInner_57 (by decide) ?_
                  refine lv_iload hx hb dX5_isInner_59 (lv_at hl 4 rfl) ?_
                  refine k_imul (a := 16) (b := i) hx hb dX5_isInner_61 ?_
                  refine lv_iload hx hb dX5_isInner_62 (lv_at hl 5 rfl) ?_
                  refine k_iadd (a := 16 * i) (b := j) hx hb dX5_isInner_64 ?_
                  refine k_zald (F := FA) (z := (16 * i) + j) hx hb hG hP 4 rfl (by omega) (by decide) dX5_isInner_65 ?_
                  refine k_ifB (B := FA ((16 * i) + j).toNat) (tgt := 71) hx hb dX5_isInner_66 (by decide) (fun c_66 => ?_) (fun c_66 => ?_)
                  · refine k_iinc (lv' := [(5, .int (iI (j + (1)))), (0, .ref m), (1, .int (iI (((r : Nat) : Int)))), (2, .int (iI (((c : Nat) : Int)))), (3, .int (iI (((n : Nat) : Int)))), (4, .int (iI (i)))]) hx hb dX5_isInner_71 hl (k := 5) rfl (by decide) rfl (fun ls hl => ?_)
                    refine lv_goto (tgt := 18) hx hb dX5_isInner_74 (by decide) ?_
                    exact ih_18 (b + 1) (j + 1) (by omega) (by omega) (sf_one hrow (by rw [← hii, ← hjj]; exact ⟨c_34, by omega, c_66⟩)) (by omega) ls (lv_sub hl [1, 2, 3, 4, 5, 0] rfl)
                  · refine lv_iconst (v := iI (0)) hx hb dX5_isInner_69 rfl ?_
                    exact ro_zret (a := 0) hx hb hr hlocks dX5_isInner_70 ((b2i_f (P := innP CA FA (MR 0) (MC 0) r c n) (fun q => by have q1 := q a (by omega) b (by omega); rw [← hii, ← hjj] at q1; exact Bool.noConfusion (q1.2.2.symm.trans c_66))).symm)
        exact loop_18 (2 * n + 2 - 0) 0 (((c : Nat) : Int) - ((n : Nat) : Int)) (by omega) (by omega) sf_nil (Nat.le_refl _) ls (lv_sub hl [1, 2, 3, 4, 5, 0] rfl)
  exact loop_5 (2 * n + 2 - 0) 0 (((r : Nat) : Int) - ((n : Nat) : Int)) (by omega) (by omega) sf_nil (Nat.le_refl _) ls (lv_sub hl [1, 2, 3, 4, 0] rfl)

def rmX5_allPlates : Room := { frames := 1, cells := 0, slots := 0, locals := 22 }
set_option maxRecDepth 20000 in
theorem inX5_X5_allPlates : ∀ w ∈ wsX50, w ∈ wsX5_allPlates := by decide +kernel
set_option maxHeartbeats 4000000 in
set_option maxRecDepth 100000 in
theorem c_X5_allPlates (lM : Launch) (G : GG) (m a1 a2 a3 a4 a5 a6 a7 a8 a9 a10 a11 a12 a13 a14 a15 a16 a17 a19 a20 a21 a22 a23 : Nat) (fd : Bool) (MR : Nat → Nat) (MC : Nat → Nat) (PA : Nat → Nat) (h1 : MR 0 ≤ 16) (h2 : MC 0 ≤ 16) (h3 : ∀ k, PA k < 16) : Met lM yX5_allPlates wsX5_allPlates rmX5_allPlates (ro G [.ref m] [(m, .inr (5, [.int (iI (0)), .ref a1, .ref a2, .ref a3, .ref a4, .ref a5, .ref a6, .ref a7, .ref a8, .ref a9, .ref a10, .ref a11, .ref a12, .ref a13, .ref a14, .ref a15, .ref a16, .ref a17, .int (iI (b2i fd)), .ref a19, .ref a20, .ref a21, .ref a22, .ref a23])), (a1, .inl (G.2 0, 5, .inl (fun iX => iI ((MR iX : Nat) : Int)))), (a2, .inl (G.2 0, 5, .inl (fun iX => iI ((MC iX : Nat) : Int)))), (a22, .inl (G.2 0, 256, .inl (fun iX => iI ((PA iX : Nat) : Int))))]) (roQ (.int (iI (((cntR (fun r c => pop (PA (16 * r + c))) (MC 0) (MR 0) : Nat) : Int))))) 0 0 (fun _ => False) := by
  refine ro_of (cc := cX5_allPlates) (maxL := 4) (ret := (some .int)) (by decide) rfl (Nat.le_of_ble_eq_true rfl) ?_
  intro pM eM sM mM bM tM cM hx hb hr hts hown hlocks hml hG hP ls hl
  have hown : sM.vm.findClass RX5 = some mM.cls := hown
  have hl : lv_has ls 4 [(0, .ref m)] := hl
  refine lv_iconst (v := iI (0)) hx hb dX5_allPlates_0 rfl ?_
  refine lv_istore_n (lv' := [(1, .int (iI (0))), (0, .ref m)]) hx hb dX5_allPlates_1 rfl hl (by decide) rfl (fun ls hl => ?_)
  refine lv_iconst (v := iI (0)) hx hb dX5_allPlates_2 rfl ?_
  refine lv_istore_n (lv' := [(2, .int (iI (0))), (1, .int (iI (0))), (0, .ref m)]) hx hb dX5_allPlates_3 rfl hl (by decide) rfl (fun ls hl => ?_)
  have loop_4 : ∀ (n_4 : Nat) (r x : Nat), (r ≤ MR 0) → (x = cntR (fun r c => pop (PA (16 * r + c))) (MC 0) r) → MR 0 + 1 - r ≤ n_4 → ∀ ls : Array Slot, lv_has ls 4 [(0, .ref m), (1, .int (iI (((x : Nat) : Int)))), (2, .int (iI (((r : Nat) : Int))))] → W pM lM eM rmX5_allPlates sM mM ([.ref m] : List Value).toArray bM tM cM sM.heap [] 0 0 (MQ bM (roQ (.int (iI (((cntR (fun r c => pop (PA (16 * r + c))) (MC 0) (MR 0) : Nat) : Int))))) ([.ref m] : List Value).toArray sM 0 0 (fun _ => False)) (F0 mM 4 ls []) := by
    intro n_4
    induction n_4 with
    | zero =>
      intro r x hr9 hxx hm_4 ls hl
      exact absurd hm_4 (by omega)
    | succ n_4 ih_4 =>
      intro r x hr9 hxx hm_4 ls hl
      refine lv_iload_n hx hb dX5_allPlates_4 rfl (lv_at hl 2 rfl) ?_
      refine lv_aload_n hx hb dX5_allPlates_5 rfl (lv_at hl 0 rfl) ?_
      refine va_get (D := G.1) (ci := 5) (v := .ref a1) (C := RX5) (T := TX5) (N := 24) hx hb hts inX5_X5_allPlates hown hG.1 hP 0 rfl rfl 1 (by decide) (hts (.fieldLink RX5 7 "InkOverInkModel" "rows" "[I") (by decide +kernel)) (fun _ h9 => h9) rfl dX5_allPlates_6 ?_
      refine lv_iconst (v := iI (0)) hx hb dX5_allPlates_9 rfl ?_
      refine k_ialdN (F := (fun iX => ((MR iX : Nat) : Int))) (z := 0) hx hb hG hP 1 rfl (by omega) (by decide) dX5_allPlates_10 ?_
      refine k_icmp_ge (a := ((r : Nat) : Int)) (b := ((MR 0 : Nat) : Int)) (tgt := 55) hx hb (by omega) (by omega) dX5_allPlates_11 (by decide) (fun c_11 => ?_) (fun c_11 => ?_)
      · refine lv_iload_n hx hb dX5_allPlates_55 rfl (lv_at hl 1 rfl) ?_
        exact ro_iret (a := ((x : Nat) : Int)) hx hb hr hlocks dX5_allPlates_56 (by rw [hxx, show r = MR 0 by omega])
      · refine lv_iconst (v := iI (0)) hx hb dX5_allPlates_14 rfl ?_
        refine lv_istore_n (lv' := [(3, .int (iI (0))), (0, .ref m), (1, .int (iI (((x : Nat) : Int)))), (2, .int (iI (((r : Nat) : Int))))]) hx hb dX5_allPlates_15 rfl hl (by decide) rfl (fun ls hl => ?_)
        have loop_16 : ∀ (n_16 : Nat) (c y : Nat), (c ≤ MC 0) → (y = x + cntC (fun r c => pop (PA (16 * r + c))) r c) → MC 0 + 1 - c ≤ n_16 → ∀ ls : Array Slot, lv_has ls 4 [(0, .ref m), (1, .int (iI (((y : Nat) : Int)))), (2, .int (iI (((r : Nat) : Int)))), (3, .int (iI (((c : Nat) : Int))))] → W pM lM eM rmX5_allPlates sM mM ([.ref m] : List Value).toArray bM tM cM sM.heap [] 0 0 (MQ bM (roQ (.int (iI (((cntR (fun r c => pop (PA (16 * r + c))) (MC 0) (MR 0) : Nat) : Int))))) ([.ref m] : List Value).toArray sM 0 0 (fun _ => False)) (F0 mM 16 ls []) := by
          intro n_16
          induction n_16 with
          | zero =>
            intro c y hc9 hyy hm_16 ls hl
            exact absurd hm_16 (by omega)
          | succ n_16 ih_16 =>
            intro c y hc9 hyy hm_16 ls hl
            refine lv_iload_n hx hb dX5_allPlates_16 rfl (lv_at hl 3 rfl) ?_
            refine lv_aload_n hx hb dX5_allPlates_17 rfl (lv_at hl 0 rfl) ?_
            refine va_get (D := G.1) (ci := 5) (v := .ref a2) (C := RX5) (T := TX5) (N := 24) hx hb hts inX5_X5_allPlates hown hG.1 hP 0 rfl rfl 2 (by decide) (hts (.fieldLink RX5 13 "InkOverInkModel" "columns" "[I") (by decide +kernel)) (fun _ h9 => h9) rfl dX5_allPlates_18 ?_
            refine lv_iconst (v := iI (0)) hx hb dX5_allPlates_21 rfl ?_
            refine k_ialdN (F := (fun iX => ((MC iX : Nat) : Int))) (z := 0) hx hb hG hP 2 rfl (by omega) (by decide) dX5_allPlates_22 ?_
            refine k_icmp_ge (a := ((c : Nat) : Int)) (b := ((MC 0 : Nat) : Int)) (tgt := 49) hx hb (by omega) (by omega) dX5_allPlates_23 (by decide) (fun c_23 => ?_) (fun c_23 => ?_)
            · refine k_iincN (n := 1) (lv' := [(2, .int (iI (((r + 1 : Nat) : Int)))), (0, .ref m), (1, .int (iI (((y : Nat) : Int)))), (3, .int (iI (((c : Nat) : Int))))]) hx hb dX5_allPlates_49 hl (k := 2) rfl (by decide) rfl (fun ls hl => ?_)
              refine lv_goto (tgt := 4) hx hb dX5_allPlates_52 (by decide) ?_
              exact ih_4 (r + 1) y (by omega) (by rw [cntR, hyy, hxx, show c = MC 0 by omega]) (by omega) ls (lv_sub hl [1, 2, 0] rfl)
            · refine lv_iload_n hx hb dX5_allPlates_26 rfl (lv_at hl 1 rfl) ?_
              refine lv_aload_n hx hb dX5_allPlates_27 rfl (lv_at hl 0 rfl) ?_
              refine va_get (D := G.1) (ci := 5) (v := .ref a22) (C := RX5) (T := TX5) (N := 24) hx hb hts inX5_X5_allPlates hown hG.1 hP 0 rfl rfl 22 (by decide) (hts (.fieldLink RX5 71 "InkOverInkModel" "platesAt" "[I") (by decide +kernel)) (fun _ h9 => h9) rfl dX5_allPlates_28 ?_
              refine lv_bipush (v := iI (16)) hx hb dX5_allPlates_31 (by decide) ?_
              refine lv_iload_n hx hb dX5_allPlates_33 rfl (lv_at hl 2 rfl) ?_
              refine k_imulN (a := 16) (b := r) hx hb dX5_allPlates_34 ?_
              refine lv_iload_n hx hb dX5_allPlates_35 rfl (lv_at hl 3 rfl) ?_
              refine k_iaddN (a := (16 * r)) (b := c) hx hb dX5_allPlates_36 ?_
              refine k_ialdN (F := (fun iX => ((PA iX : Nat) : Int))) (z := (16 * r) + c) hx hb hG hP 3 rfl (by omega) (by decide) dX5_allPlates_37 ?_
              refine k_roS (rest := [.int (iI (((y : Nat) : Int)))]) [.int (iI (((PA ((16 * r) + c) : Nat) : Int)))] ⟨hx, hb, hml, hown, hts⟩ (c_X5_ones lM G (PA ((16 * r) + c)) (h3 _)) (va_cwS 1 hts gX5_allPlates_X5_ones rfl rfl rfl (by decide +kernel) ⟨Nat.le_of_ble_eq_true rfl, Nat.le_of_ble_eq_true rfl⟩) hG (fun k q h => by simp at h) rfl rfl hl.1 (Nat.le_of_ble_eq_true rfl) ⟨Nat.zero_le _, Nat.zero_le _⟩ dX5_allPlates_38 ?_
              refine k_iaddN (a := y) (b := (pop (PA ((16 * r) + c)))) hx hb dX5_allPlates_41 ?_
              refine lv_istore_n (lv' := [(1, .int (iI (((y + (pop (PA ((16 * r) + c))) : Nat) : Int)))), (0, .ref m), (2, .int (iI (((r : Nat) : Int)))), (3, .int (iI (((c : Nat) : Int))))]) hx hb dX5_allPlates_42 rfl hl (by decide) rfl (fun ls hl => ?_)
              refine k_iincN (n := 1) (lv' := [(3, .int (iI (((c + 1 : Nat) : Int)))), (1, .int (iI (((y + (pop (PA ((16 * r) + c))) : Nat) : Int)))), (0, .ref m), (2, .int (iI (((r : Nat) : Int))))]) hx hb dX5_allPlates_43 hl (k := 3) rfl (by decide) rfl (fun ls hl => ?_)
              refine lv_goto (tgt := 16) hx hb dX5_allPlates_46 (by decide) ?_
              exact ih_16 (c + 1) (y + (pop (PA ((16 * r) + c)))) (by omega) (by rw [cntC, hyy]; omega) (by omega) ls (lv_sub hl [2, 1, 3, 0] rfl)
        exact loop_16 (MC 0 + 1 - 0) 0 x (by omega) rfl (Nat.le_refl _) ls (lv_sub hl [1, 2, 3, 0] rfl)
  exact loop_4 (MR 0 + 1 - 0) 0 0 (by omega) rfl (Nat.le_refl _) ls (lv_sub hl [2, 1, 0] rfl)

def rmX5_stays : Room := { frames := 4, cells := 0, slots := 0, locals := 97 }
set_option maxHeartbeats 4000000 in
set_option maxRecDepth 100000 in
theorem c_X5_stays (lM : Launch) (G : GG) (m a1 a2 a3 a4 a5 a6 a7 a8 a9 a10 a11 a12 a13 a14 a15 a16 a17 a19 a20 a21 a22 a23 : Nat) (fd : Bool) (r c n : Nat) (MR : Nat → Nat) (MC : Nat → Nat) (CA : Nat → Nat) (PA : Nat → Nat) (h1 : r < 16) (h2 : c < 16) (h3 : n ≤ 15) (h4 : MR 0 ≤ 16) (h5 : MC 0 ≤ 16) (h6 : ∀ k, CA k < 16) (h7 : ∀ k, PA k < 16) : Met lM yX5_stays wsX5_stays rmX5_stays (ro G [.ref m, .int (iI (((r : Nat) : Int))), .int (iI (((c : Nat) : Int))), .int (iI (((n : Nat) : Int)))] [(m, .inr (5, [.int (iI (0)), .ref a1, .ref a2, .ref a3, .ref a4, .ref a5, .ref a6, .ref a7, .ref a8, .ref a9, .ref a10, .ref a11, .ref a12, .ref a13, .ref a14, .ref a15, .ref a16, .ref a17, .int (iI (b2i fd)), .ref a19, .ref a20, .ref a21, .ref a22, .ref a23])), (a1, .inl (G.2 0, 5, .inl (fun iX => iI ((MR iX : Nat) : Int)))), (a2, .inl (G.2 0, 5, .inl (fun iX => iI ((MC iX : Nat) : Int)))), (a20, .inl (G.2 0, 256, .inl (fun iX => iI ((CA iX : Nat) : Int)))), (a22, .inl (G.2 0, 256, .inl (fun iX => iI ((PA iX : Nat) : Int))))]) (roQ (.int (iI (b2i (decide (styP CA PA (MR 0) (MC 0) r c n)))))) 0 0 (fun _ => False) := by
  refine ro_of (cc := cX5_stays) (maxL := 7) (ret := (some .boolean)) (by decide) rfl (Nat.le_of_ble_eq_true rfl) ?_
  intro pM eM sM mM bM tM cM hx hb hr hts hown hlocks hml hG hP ls hl
  have hown : sM.vm.findClass RX5 = some mM.cls := hown
  have hl : lv_has ls 7 [(0, .ref m), (1, .int (iI (((r : Nat) : Int)))), (2, .int (iI (((c : Nat) : Int)))), (3, .int (iI (((n : Nat) : Int))))] := hl
  refine lv_iconst (v := iI (0)) hx hb dX5_stays_0 rfl ?_
  refine lv_istore (lv' := [(4, .int (iI (0))), (0, .ref m), (1, .int (iI (((r : Nat) : Int)))), (2, .int (iI (((c : Nat) : Int)))), (3, .int (iI (((n : Nat) : Int))))]) hx hb dX5_stays_1 hl (by decide) rfl (fun ls hl => ?_)
  have loop_3 : ∀ (n_3 : Nat) (i : Nat), (i ≤ 4) → (∀ i2, i2 < i → ∀ a, a < 2 * n + 1 → ∀ b, b < 2 * n + 1 → barB CA PA (MR 0) (MC 0) r c i2 (-(n : Int) + (a : Nat)) (-(n : Int) + (b : Nat)) = false) → 5 - i ≤ n_3 → ∀ ls : Array Slot, lv_has ls 7 [(0, .ref m), (1, .int (iI (((r : Nat) : Int)))), (2, .int (iI (((c : Nat) : Int)))), (3, .int (iI (((n : Nat) : Int)))), (4, .int (iI (((i : Nat) : Int))))] → W pM lM eM rmX5_stays sM mM ([.ref m, .int (iI (((r : Nat) : Int))), .int (iI (((c : Nat) : Int))), .int (iI (((n : Nat) : Int)))] : List Value).toArray bM tM cM sM.heap [] 0 0 (MQ bM (roQ (.int (iI (b2i (decide (styP CA PA (MR 0) (MC 0) r c n)))))) ([.ref m, .int (iI (((r : Nat) : Int))), .int (iI (((c : Nat) : Int))), .int (iI (((n : Nat) : Int)))] : List Value).toArray sM 0 0 (fun _ => False)) (F0 mM 3 ls []) := by
    intro n_3
    induction n_3 with
    | zero =>
      intro i hi hal hm_3 ls hl
      exact absurd hm_3 (by omega)
    | succ n_3 ih_3 =>
      intro i hi hal hm_3 ls hl
      refine lv_iload hx hb dX5_stays_3 (lv_at hl 4 rfl) ?_
      refine lv_iconst (v := iI (4)) hx hb dX5_stays_5 rfl ?_
      refine k_icmp_ge (a := ((i : Nat) : Int)) (b := 4) (tgt := 64) hx hb (by omega) (by omega) dX5_stays_6 (by decide) (fun c_6 => ?_) (fun c_6 => ?_)
      · refine lv_iconst (v := iI (1)) hx hb dX5_stays_64 rfl ?_
        exact ro_zret (a := 1) hx hb hr hlocks dX5_stays_65 ((b2i_t (P := styP CA PA (MR 0) (MC 0) r c n) (fun i2 hi2 => hal i2 (by omega))).symm)
      · refine lv_iload_n hx hb dX5_stays_9 rfl (lv_at hl 3 rfl) ?_
        refine k_ineg (a := ((n : Nat) : Int)) hx hb dX5_stays_10 ?_
        refine lv_istore (lv' := [(5, .int (iI (-((n : Nat) : Int)))), (0, .ref m), (1, .int (iI (((r : Nat) : Int)))), (2, .int (iI (((c : Nat) : Int)))), (3, .int (iI (((n : Nat) : Int)))), (4, .int (iI (((i : Nat) : Int))))]) hx hb dX5_stays_11 hl (by decide) rfl (fun ls hl => ?_)
        have loop_13 : ∀ (n_13 : Nat) (a : Nat) (u : Int), (a ≤ 2 * n + 1) → (u = -(n : Int) + a) → (∀ a2, a2 < a → ∀ b, b < 2 * n + 1 → barB CA PA (MR 0) (MC 0) r c i (-(n : Int) + (a2 : Nat)) (-(n : Int) + (b : Nat)) = false) → 2 * n + 2 - a ≤ n_13 → ∀ ls : Array Slot, lv_has ls 7 [(0, .ref m), (1, .int (iI (((r : Nat) : Int)))), (2, .int (iI (((c : Nat) : Int)))), (3, .int (iI (((n : Nat) : Int)))), (4, .int (iI (((i : Nat) : Int)))), (5, .int (iI (u)))] → W pM lM eM rmX5_stays sM mM ([.ref m, .int (iI (((r : Nat) : Int))), .int (iI (((c : Nat) : Int))), .int (iI (((n : Nat) : Int)))] : List Value).toArray bM tM cM sM.heap [] 0 0 (MQ bM (roQ (.int (iI (b2i (decide (styP CA PA (MR 0) (MC 0) r c n)))))) ([.ref m, .int (iI (((r : Nat) : Int))), .int (iI (((c : Nat) : Int))), .int (iI (((n : Nat) : Int)))] : List Value).toArray sM 0 0 (fun _ => False)) (F0 mM 13 ls []) := by
          intro n_13
          induction n_13 with
          | zero =>
            intro a u ha huu hro hm_13 ls hl
            exact absurd hm_13 (by omega)
          | succ n_13 ih_13 =>
            intro a u ha huu hro hm_13 ls hl
            refine lv_iload hx hb dX5_stays_13 (lv_at hl 5 rfl) ?_
            refine lv_iload_n hx hb dX5_stays_15 rfl (lv_at hl 3 rfl) ?_
            refine k_icmp_gt (a := u) (b := ((n : Nat) : Int)) (tgt := 58) hx hb (by omega) (by omega) dX5_stays_16 (by decide) (fun c_16 => ?_) (fun c_16 => ?_)
            · refine k_iincN (n := 1) (lv' := [(4, .int (iI (((i + 1 : Nat) : Int)))), (0, .ref m), (1, .int (iI (((r : Nat) : Int)))), (2, .int (iI (((c : Nat) : Int)))), (3, .int (iI (((n : Nat) : Int)))), (5, .int (iI (u)))]) hx hb dX5_stays_58 hl (k := 4) rfl (by decide) rfl (fun ls hl => ?_)
              refine lv_goto (tgt := 3) hx hb dX5_stays_61 (by decide) ?_
              exact ih_3 (i + 1) (by omega) (sf_one hal (fun a2 ha2 => hro a2 (by omega))) (by omega) ls (lv_sub hl [1, 2, 3, 4, 0] rfl)
            · refine lv_iload_n hx hb dX5_stays_19 rfl (lv_at hl 3 rfl) ?_
              refine k_ineg (a := ((n : Nat) : Int)) hx hb dX5_stays_20 ?_
              refine lv_istore (lv' := [(6, .int (iI (-((n : Nat) : Int)))), (0, .ref m), (1, .int (iI (((r : Nat) : Int)))), (2, .int (iI (((c : Nat) : Int)))), (3, .int (iI (((n : Nat) : Int)))), (4, .int (iI (((i : Nat) : Int)))), (5, .int (iI (u)))]) hx hb dX5_stays_21 hl (by decide) rfl (fun ls hl => ?_)
              have loop_23 : ∀ (n_23 : Nat) (b : Nat) (v : Int), (b ≤ 2 * n + 1) → (v = -(n : Int) + b) → (∀ b2, b2 < b → barB CA PA (MR 0) (MC 0) r c i (-(n : Int) + (a : Nat)) (-(n : Int) + (b2 : Nat)) = false) → 2 * n + 2 - b ≤ n_23 → ∀ ls : Array Slot, lv_has ls 7 [(0, .ref m), (1, .int (iI (((r : Nat) : Int)))), (2, .int (iI (((c : Nat) : Int)))), (3, .int (iI (((n : Nat) : Int)))), (4, .int (iI (((i : Nat) : Int)))), (5, .int (iI (u))), (6, .int (iI (v)))] → W pM lM eM rmX5_stays sM mM ([.ref m, .int (iI (((r : Nat) : Int))), .int (iI (((c : Nat) : Int))), .int (iI (((n : Nat) : Int)))] : List Value).toArray bM tM cM sM.heap [] 0 0 (MQ bM (roQ (.int (iI (b2i (decide (styP CA PA (MR 0) (MC 0) r c n)))))) ([.ref m, .int (iI (((r : Nat) : Int))), .int (iI (((c : Nat) : Int))), .int (iI (((n : Nat) : Int)))] : List Value).toArray sM 0 0 (fun _ => False)) (F0 mM 23 ls []) := by
                intro n_23
                induction n_23 with
                | zero =>
                  intro b v hb9 hvv hrow hm_23 ls hl
                  exact absurd hm_23 (by omega)
                | succ n_23 ih_23 =>
                  intro b v hb9 hvv hrow hm_23 ls hl
                  refine lv_iload hx hb dX5_stays_23 (lv_at hl 6 rfl) ?_
                  refine lv_iload_n hx hb dX5_stays_25 rfl (lv_at hl 3 rfl) ?_
                  refine k_icmp_gt (a := v) (b := ((n : Nat) : Int)) (tgt := 52) hx hb (by omega) (by omega) dX5_stays_26 (by decide) (fun c_26 => ?_) (fun c_26 => ?_)
                  · refine k_iinc (lv' := [(5, .int (iI (u + (1)))), (0, .ref m), (1, .int (iI (((r : Nat) : Int)))), (2, .int (iI (((c : Nat) : Int)))), (3, .int (iI (((n : Nat) : Int)))), (4, .int (iI (((i : Nat) : Int)))), (6, .int (iI (v)))]) hx hb dX5_stays_52 hl (k := 5) rfl (by decide) rfl (fun ls hl => ?_)
                    refine lv_goto (tgt := 13) hx hb dX5_stays_55 (by decide) ?_
                    exact ih_13 (a + 1) (u + 1) (by omega) (by omega) (sf_one hro (fun b2 hb2 => hrow b2 (by omega))) (by omega) ls (lv_sub hl [1, 2, 3, 4, 5, 0] rfl)
                  · refine lv_aload_n hx hb dX5_stays_29 rfl (lv_at hl 0 rfl) ?_
                    refine lv_iload_n hx hb dX5_stays_30 rfl (lv_at hl 1 rfl) ?_
                    refine lv_iload_n hx hb dX5_stays_31 rfl (lv_at hl 2 rfl) ?_
                    refine lv_iload hx hb dX5_stays_32 (lv_at hl 4 rfl) ?_
                    refine lv_iload hx hb dX5_stays_34 (lv_at hl 5 rfl) ?_
                    refine lv_iload hx hb dX5_stays_36 (lv_at hl 6 rfl) ?_
                    refine k_roV (rest := []) [.int (iI (((r : Nat) : Int))), .int (iI (((c : Nat) : Int))), .int (iI (((i : Nat) : Int))), .int (iI (u)), .int (iI (v))] ⟨hx, hb, hml, hown, hts⟩ (c_X5_isBareBy lM G m a1 a2 a3 a4 a5 a6 a7 a8 a9 a10 a11 a12 a13 a14 a15 a16 a17 a19 a20 a21 a22 a23 fd r c i u v MR MC CA PA (by omega) (by omega) (by omega) (by omega) (by omega) (by omega) (by omega) h6 h7) (cwV 5 hts gX5_stays_X5_isBareBy rfl rfl rfl (by decide +kernel) ⟨Nat.le_of_ble_eq_true rfl, Nat.le_of_ble_eq_true rfl⟩) hG (va_recv hG.1 hP (ci := 5) (q0 := 0) rfl rfl) (hP.sub (ws' := [(m, .inr (5, [.int (iI (0)), .ref a1, .ref a2, .ref a3, .ref a4, .ref a5, .ref a6, .ref a7, .ref a8, .ref a9, .ref a10, .ref a11, .ref a12, .ref a13, .ref a14, .ref a15, .ref a16, .ref a17, .int (iI (b2i fd)), .ref a19, .ref a20, .ref a21, .ref a22, .ref a23])), (a1, .inl (G.2 0, 5, .inl (fun iX => iI ((MR iX : Nat) : Int)))), (a2, .inl (G.2 0, 5, .inl (fun iX => iI ((MC iX : Nat) : Int)))), (a20, .inl (G.2 0, 256, .inl (fun iX => iI ((CA iX : Nat) : Int)))), (a22, .inl (G.2 0, 256, .inl (fun iX => iI ((PA iX : Nat) : Int))))]) [0, 1, 2, 3, 4] rfl) rfl rfl hl.1 (Nat.le_of_ble_eq_true rfl) ⟨Nat.zero_le _, Nat.zero_le _⟩ dX5_stays_38 ?_
                    refine k_ifD (P := barP CA PA (MR 0) (MC 0) r c i u v) (tgt := 46) hx hb dX5_stays_41 (by decide) (fun c_41 => ?_) (fun c_41 => ?_)
                    · refine k_iinc (lv' := [(6, .int (iI (v + (1)))), (0, .ref m), (1, .int (iI (((r : Nat) : Int)))), (2, .int (iI (((c : Nat) : Int)))), (3, .int (iI (((n : Nat) : Int)))), (4, .int (iI (((i : Nat) : Int)))), (5, .int (iI (u)))]) hx hb dX5_stays_46 hl (k := 6) rfl (by decide) rfl (fun ls hl => ?_)
                      refine lv_goto (tgt := 23) hx hb dX5_stays_49 (by decide) ?_
                      exact ih_23 (b + 1) (v + 1) (by omega) (by omega) (sf_one hrow (by rw [← huu, ← hvv]; exact decide_eq_false c_41)) (by omega) ls (lv_sub hl [1, 2, 3, 4, 5, 6, 0] rfl)
                    · refine lv_iconst (v := iI (0)) hx hb dX5_stays_44 rfl ?_
                      exact ro_zret (a := 0) hx hb hr hlocks dX5_stays_45 ((b2i_f (P := styP CA PA (MR 0) (MC 0) r c n) (fun q => by have q1 := q i (by omega) a (by omega) b (by omega); rw [← huu, ← hvv] at q1; exact Bool.noConfusion (q1.symm.trans (decide_eq_true c_41)))).symm)
              exact loop_23 (2 * n + 2 - 0) 0 (-((n : Nat) : Int)) (by omega) (by omega) sf_nil (Nat.le_refl _) ls (lv_sub hl [1, 2, 3, 4, 5, 6, 0] rfl)
        exact loop_13 (2 * n + 2 - 0) 0 (-((n : Nat) : Int)) (by omega) (by omega) sf_nil (Nat.le_refl _) ls (lv_sub hl [1, 2, 3, 4, 5, 0] rfl)
  exact loop_3 (5 - 0) 0 (by omega) sf_nil (Nat.le_refl _) ls (lv_sub hl [1, 2, 3, 4, 0] rfl)

def rmX5_isSafe : Room := { frames := 5, cells := 0, slots := 0, locals := 123 }
set_option maxRecDepth 20000 in
theorem inX5_X5_isSafe : ∀ w ∈ wsX50, w ∈ wsX5_isSafe := by decide +kernel
set_option maxHeartbeats 4000000 in
set_option maxRecDepth 100000 in
theorem c_X5_isSafe (lM : Launch) (G : GG) (m a1 a2 a3 a4 a5 a6 a7 a8 a9 a10 a11 a12 a13 a14 a15 a16 a17 a19 a20 a21 a22 a23 : Nat) (fd : Bool) (n : Nat) (MR : Nat → Nat) (MC : Nat → Nat) (CA : Nat → Nat) (FA : Nat → Bool) (PA : Nat → Nat) (h1 : n ≤ 15) (h2 : MR 0 ≤ 16) (h3 : MC 0 ≤ 16) (h4 : ∀ k, CA k < 16) (h5 : ∀ k, PA k < 16) : Met lM yX5_isSafe wsX5_isSafe rmX5_isSafe (ro G [.ref m, .int (iI (((n : Nat) : Int)))] [(m, .inr (5, [.int (iI (0)), .ref a1, .ref a2, .ref a3, .ref a4, .ref a5, .ref a6, .ref a7, .ref a8, .ref a9, .ref a10, .ref a11, .ref a12, .ref a13, .ref a14, .ref a15, .ref a16, .ref a17, .int (iI (b2i fd)), .ref a19, .ref a20, .ref a21, .ref a22, .ref a23])), (a1, .inl (G.2 0, 5, .inl (fun iX => iI ((MR iX : Nat) : Int)))), (a2, .inl (G.2 0, 5, .inl (fun iX => iI ((MC iX : Nat) : Int)))), (a20, .inl (G.2 0, 256, .inl (fun iX => iI ((CA iX : Nat) : Int)))), (a21, .inl (G.2 1, 256, .inl (fun iX => iI (b2i (FA iX))))), (a22, .inl (G.2 0, 256, .inl (fun iX => iI ((PA iX : Nat) : Int))))]) (roQ (.int (iI (b2i (decide (sfmP CA FA PA (MR 0) (MC 0) n)))))) 0 0 (fun _ => False) := by
  refine ro_of (cc := cX5_isSafe) (maxL := 4) (ret := (some .boolean)) (by decide) rfl (Nat.le_of_ble_eq_true rfl) ?_
  intro pM eM sM mM bM tM cM hx hb hr hts hown hlocks hml hG hP ls hl
  have hown : sM.vm.findClass RX5 = some mM.cls := hown
  have hl : lv_has ls 4 [(0, .ref m), (1, .int (iI (((n : Nat) : Int))))] := hl
  refine lv_iconst (v := iI (0)) hx hb dX5_isSafe_0 rfl ?_
  refine lv_istore_n (lv' := [(2, .int (iI (0))), (0, .ref m), (1, .int (iI (((n : Nat) : Int))))]) hx hb dX5_isSafe_1 rfl hl (by decide) rfl (fun ls hl => ?_)
  have loop_2 : ∀ (n_2 : Nat) (r : Nat), (r ≤ MR 0) → (∀ r2, r2 < r → ∀ c, c < MC 0 → ¬ (innB CA FA (MR 0) (MC 0) r2 c n = true ∧ styB CA PA (MR 0) (MC 0) r2 c n = false)) → MR 0 + 1 - r ≤ n_2 → ∀ ls : Array Slot, lv_has ls 4 [(0, .ref m), (1, .int (iI (((n : Nat) : Int)))), (2, .int (iI (((r : Nat) : Int))))] → W pM lM eM rmX5_isSafe sM mM ([.ref m, .int (iI (((n : Nat) : Int)))] : List Value).toArray bM tM cM sM.heap [] 0 0 (MQ bM (roQ (.int (iI (b2i (decide (sfmP CA FA PA (MR 0) (MC 0) n)))))) ([.ref m, .int (iI (((n : Nat) : Int)))] : List Value).toArray sM 0 0 (fun _ => False)) (F0 mM 2 ls []) := by
    intro n_2
    induction n_2 with
    | zero =>
      intro r hr9 hal hm_2 ls hl
      exact absurd hm_2 (by omega)
    | succ n_2 ih_2 =>
      intro r hr9 hal hm_2 ls hl
      refine lv_iload_n hx hb dX5_isSafe_2 rfl (lv_at hl 2 rfl) ?_
      refine lv_aload_n hx hb dX5_isSafe_3 rfl (lv_at hl 0 rfl) ?_
      refine va_get (D := G.1) (ci := 5) (v := .ref a1) (C := RX5) (T := TX5) (N := 24) hx hb hts inX5_X5_isSafe hown hG.1 hP 0 rfl rfl 1 (by decide) (hts (.fieldLink RX5 7 "InkOverInkModel" "rows" "[I") (by decide +kernel)) (fun _ h9 => h9) rfl dX5_isSafe_4 ?_
      refine lv_iconst (v := iI (0)) hx hb dX5_isSafe_7 rfl ?_
      refine k_ialdN (F := (fun iX => ((MR iX : Nat) : Int))) (z := 0) hx hb hG hP 1 rfl (by omega) (by decide) dX5_isSafe_8 ?_
      refine k_icmp_ge (a := ((r : Nat) : Int)) (b := ((MR 0 : Nat) : Int)) (tgt := 58) hx hb (by omega) (by omega) dX5_isSafe_9 (by decide) (fun c_9 => ?_) (fun c_9 => ?_)
      · refine lv_iconst (v := iI (1)) hx hb dX5_isSafe_58 rfl ?_
        exact ro_zret (a := 1) hx hb hr hlocks dX5_isSafe_59 ((b2i_t (P := sfmP CA FA PA (MR 0) (MC 0) n) (fun r2 hr2 => hal r2 (by omega))).symm)
      · refine lv_iconst (v := iI (0)) hx hb dX5_isSafe_12 rfl ?_
        refine lv_istore_n (lv' := [(3, .int (iI (0))), (0, .ref m), (1, .int (iI (((n : Nat) : Int)))), (2, .int (iI (((r : Nat) : Int))))]) hx hb dX5_isSafe_13 rfl hl (by decide) rfl (fun ls hl => ?_)
        have loop_14 : ∀ (n_14 : Nat) (c : Nat), (c ≤ MC 0) → (∀ c2, c2 < c → ¬ (innB CA FA (MR 0) (MC 0) r c2 n = true ∧ styB CA PA (MR 0) (MC 0) r c2 n = false)) → MC 0 + 1 - c ≤ n_14 → ∀ ls : Array Slot, lv_has ls 4 [(0, .ref m), (1, .int (iI (((n : Nat) : Int)))), (2, .int (iI (((r : Nat) : Int)))), (3, .int (iI (((c : Nat) : Int))))] → W pM lM eM rmX5_isSafe sM mM ([.ref m, .int (iI (((n : Nat) : Int)))] : List Value).toArray bM tM cM sM.heap [] 0 0 (MQ bM (roQ (.int (iI (b2i (decide (sfmP CA FA PA (MR 0) (MC 0) n)))))) ([.ref m, .int (iI (((n : Nat) : Int)))] : List Value).toArray sM 0 0 (fun _ => False)) (F0 mM 14 ls []) := by
          intro n_14
          induction n_14 with
          | zero =>
            intro c hc9 hrow hm_14 ls hl
            exact absurd hm_14 (by omega)
          | succ n_14 ih_14 =>
            intro c hc9 hrow hm_14 ls hl
            refine lv_iload_n hx hb dX5_isSafe_14 rfl (lv_at hl 3 rfl) ?_
            refine lv_aload_n hx hb dX5_isSafe_15 rfl (lv_at hl 0 rfl) ?_
            refine va_get (D := G.1) (ci := 5) (v := .ref a2) (C := RX5) (T := TX5) (N := 24) hx hb hts inX5_X5_isSafe hown hG.1 hP 0 rfl rfl 2 (by decide) (hts (.fieldLink RX5 13 "InkOverInkModel" "columns" "[I") (by decide +kernel)) (fun _ h9 => h9) rfl dX5_isSafe_16 ?_
            refine lv_iconst (v := iI (0)) hx hb dX5_isSafe_19 rfl ?_
            refine k_ialdN (F := (fun iX => ((MC iX : Nat) : Int))) (z := 0) hx hb hG hP 2 rfl (by omega) (by decide) dX5_isSafe_20 ?_
            refine k_icmp_ge (a := ((c : Nat) : Int)) (b := ((MC 0 : Nat) : Int)) (tgt := 52) hx hb (by omega) (by omega) dX5_isSafe_21 (by decide) (fun c_21 => ?_) (fun c_21 => ?_)
            · refine k_iincN (n := 1) (lv' := [(2, .int (iI (((r + 1 : Nat) : Int)))), (0, .ref m), (1, .int (iI (((n : Nat) : Int)))), (3, .int (iI (((c : Nat) : Int))))]) hx hb dX5_isSafe_52 hl (k := 2) rfl (by decide) rfl (fun ls hl => ?_)
              refine lv_goto (tgt := 2) hx hb dX5_isSafe_55 (by decide) ?_
              exact ih_2 (r + 1) (by omega) (sf_one hal (fun c2 hc2 => hrow c2 (by omega))) (by omega) ls (lv_sub hl [1, 2, 0] rfl)
            · refine lv_aload_n hx hb dX5_isSafe_24 rfl (lv_at hl 0 rfl) ?_
              refine lv_iload_n hx hb dX5_isSafe_25 rfl (lv_at hl 2 rfl) ?_
              refine lv_iload_n hx hb dX5_isSafe_26 rfl (lv_at hl 3 rfl) ?_
              refine lv_iload_n hx hb dX5_isSafe_27 rfl (lv_at hl 1 rfl) ?_
              refine k_roV (rest := []) [.int (iI (((r : Nat) : Int))), .int (iI (((c : Nat) : Int))), .int (iI (((n : Nat) : Int)))] ⟨hx, hb, hml, hown, hts⟩ (c_X5_isInner lM G m a1 a2 a3 a4 a5 a6 a7 a8 a9 a10 a11 a12 a13 a14 a15 a16 a17 a19 a20 a21 a22 a23 fd r c n MR MC CA FA (by omega) (by omega) (by omega) (by omega) (by omega) h4) (cwV 3 hts gX5_isSafe_X5_isInner rfl rfl rfl (by decide +kernel) ⟨Nat.le_of_ble_eq_true rfl, Nat.le_of_ble_eq_true rfl⟩) hG (va_recv hG.1 hP (ci := 5) (q0 := 0) rfl rfl) (hP.sub (ws' := [(m, .inr (5, [.int (iI (0)), .ref a1, .ref a2, .ref a3, .ref a4, .ref a5, .ref a6, .ref a7, .ref a8, .ref a9, .ref a10, .ref a11, .ref a12, .ref a13, .ref a14, .ref a15, .ref a16, .ref a17, .int (iI (b2i fd)), .ref a19, .ref a20, .ref a21, .ref a22, .ref a23])), (a1, .inl (G.2 0, 5, .inl (fun iX => iI ((MR iX : Nat) : Int)))), (a2, .inl (G.2 0, 5, .inl (fun iX => iI ((MC iX : Nat) : Int)))), (a20, .inl (G.2 0, 256, .inl (fun iX => iI ((CA iX : Nat) : Int)))), (a21, .inl (G.2 1, 256, .inl (fun iX => iI (b2i (FA iX)))))]) [0, 1, 2, 3, 4] rfl) rfl rfl hl.1 (Nat.le_of_ble_eq_true rfl) ⟨Nat.zero_le _, Nat.zero_le _⟩ dX5_isSafe_28 ?_
              refine k_ifD (P := innP CA FA (MR 0) (MC 0) r c n) (tgt := 46) hx hb dX5_isSafe_31 (by decide) (fun c_31 => ?_) (fun c_31 => ?_)
              · refine k_iincN (n := 1) (lv' := [(3, .int (iI (((c + 1 : Nat) : Int)))), (0, .ref m), (1, .int (iI (((n : Nat) : Int)))), (2, .int (iI (((r : Nat) : Int))))]) hx hb dX5_isSafe_46 hl (k := 3) rfl (by decide) rfl (fun ls hl => ?_)
                refine lv_goto (tgt := 14) hx hb dX5_isSafe_49 (by decide) ?_
                exact ih_14 (c + 1) (by omega) (sf_one hrow (fun q => by first | exact c_31 (of_decide_eq_true q.1) | exact of_decide_eq_false q.2 c_41)) (by omega) ls (lv_sub hl [1, 2, 3, 0] rfl)
              · refine lv_aload_n hx hb dX5_isSafe_34 rfl (lv_at hl 0 rfl) ?_
                refine lv_iload_n hx hb dX5_isSafe_35 rfl (lv_at hl 2 rfl) ?_
                refine lv_iload_n hx hb dX5_isSafe_36 rfl (lv_at hl 3 rfl) ?_
                refine lv_iload_n hx hb dX5_isSafe_37 rfl (lv_at hl 1 rfl) ?_
                refine k_roV (rest := []) [.int (iI (((r : Nat) : Int))), .int (iI (((c : Nat) : Int))), .int (iI (((n : Nat) : Int)))] ⟨hx, hb, hml, hown, hts⟩ (c_X5_stays lM G m a1 a2 a3 a4 a5 a6 a7 a8 a9 a10 a11 a12 a13 a14 a15 a16 a17 a19 a20 a21 a22 a23 fd r c n MR MC CA PA (by omega) (by omega) (by omega) (by omega) (by omega) h4 h5) (cwV 3 hts gX5_isSafe_X5_stays rfl rfl rfl (by decide +kernel) ⟨Nat.le_of_ble_eq_true rfl, Nat.le_of_ble_eq_true rfl⟩) hG (va_recv hG.1 hP (ci := 5) (q0 := 0) rfl rfl) (hP.sub (ws' := [(m, .inr (5, [.int (iI (0)), .ref a1, .ref a2, .ref a3, .ref a4, .ref a5, .ref a6, .ref a7, .ref a8, .ref a9, .ref a10, .ref a11, .ref a12, .ref a13, .ref a14, .ref a15, .ref a16, .ref a17, .int (iI (b2i fd)), .ref a19, .ref a20, .ref a21, .ref a22, .ref a23])), (a1, .inl (G.2 0, 5, .inl (fun iX => iI ((MR iX : Nat) : Int)))), (a2, .inl (G.2 0, 5, .inl (fun iX => iI ((MC iX : Nat) : Int)))), (a20, .inl (G.2 0, 256, .inl (fun iX => iI ((CA iX : Nat) : Int)))), (a22, .inl (G.2 0, 256, .inl (fun iX => iI ((PA iX : Nat) : Int))))]) [0, 1, 2, 3, 5] rfl) rfl rfl hl.1 (Nat.le_of_ble_eq_true rfl) ⟨Nat.zero_le _, Nat.zero_le _⟩ dX5_isSafe_38 ?_
                refine k_ifnD (P := styP CA PA (MR 0) (MC 0) r c n) (tgt := 46) hx hb dX5_isSafe_41 (by decide) (fun c_41 => ?_) (fun c_41 => ?_)
                · refine k_iincN (n := 1) (lv' := [(3, .int (iI (((c + 1 : Nat) : Int)))), (0, .ref m), (1, .int (iI (((n : Nat) : Int)))), (2, .int (iI (((r : Nat) : Int))))]) hx hb dX5_isSafe_46 hl (k := 3) rfl (by decide) rfl (fun ls hl => ?_)
                  refine lv_goto (tgt := 14) hx hb dX5_isSafe_49 (by decide) ?_
                  exact ih_14 (c + 1) (by omega) (sf_one hrow (fun q => by first | exact c_31 (of_decide_eq_true q.1) | exact of_decide_eq_false q.2 c_41)) (by omega) ls (lv_sub hl [1, 2, 3, 0] rfl)
                · refine lv_iconst (v := iI (0)) hx hb dX5_isSafe_44 rfl ?_
                  exact ro_zret (a := 0) hx hb hr hlocks dX5_isSafe_45 ((b2i_f (P := sfmP CA FA PA (MR 0) (MC 0) n) (fun q => q r (by omega) c (by omega) ⟨decide_eq_true c_31, decide_eq_false c_41⟩)).symm)
        exact loop_14 (MC 0 + 1 - 0) 0 (by omega) sf_nil (Nat.le_refl _) ls (lv_sub hl [1, 2, 3, 0] rfl)
  exact loop_2 (MR 0 + 1 - 0) 0 (by omega) sf_nil (Nat.le_refl _) ls (lv_sub hl [1, 2, 0] rfl)
