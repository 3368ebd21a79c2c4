def shD (OR : Nat → Nat) (k a : Nat) : Nat → Nat := fun q => if k ≤ q ∧ q + 1 < a then OR (q + 1) else OR q
theorem shD_0 (OR : Nat → Nat) (k : Nat) : OR = shD OR k (k + 1) := by
  funext q
  unfold shD
  rw [if_neg (by omega)]
theorem shD_s (OR : Nat → Nat) {k a : Nat} (h : k + 1 ≤ a) : va_up (shD OR k a) (a - 1) (shD OR k a a) = shD OR k (a + 1) := by
  funext q
  unfold va_up shD
  by_cases e : q = a - 1
  · subst e
    rw [if_pos rfl, if_neg (by omega), if_pos (by omega), show a - 1 + 1 = a by omega]
  · rw [if_neg e]
    by_cases e2 : k ≤ q ∧ q + 1 < a
    · rw [if_pos e2, if_pos (by omega)]
    · rw [if_neg e2, if_neg (by omega)]
theorem plc_rng (OR : Nat → Nat) (ly : Nat) (n : Int) : ∀ k, -1 ≤ plc OR ly n k ∧ plc OR ly n k ≤ ly
  | 0 => by show -1 ≤ (-1 : Int) ∧ (-1 : Int) ≤ ly; omega
  | k + 1 => by
    have h := plc_rng OR ly n k
    unfold plc
    split
    · omega
    · exact h
def fnAt (SH : Nat → Option Nat) (SV : Nat → ShT) (n : Int) : Bool := if 0 ≤ n ∧ n ≤ 29 then (match SH n.toNat with | none => false | some _ => (SV n.toNat).2.2.2.2.2.2) else false
theorem pool0 {G : GG} {v : va_W} {H : Heap} {q : Nat × va_E} (h : va_P G.1 vwCl v H) (k : Nat) (hk : v[k]? = some q) : va_P G.1 vwCl [q] H := by
  intro j x hx
  have hj : j = 0 := by
    have := (List.getElem?_eq_some_iff.mp hx).1
    simp at this
    omega
  subst hj
  cases hx
  exact h k _ hk
def rmX3_isFine : Room := { frames := 2, cells := 0, slots := 0, locals := 43 }
set_option maxRecDepth 20000 in
theorem inX2_X3_isFine : ∀ w ∈ wsX20, w ∈ wsX3_isFine := by decide +kernel
set_option maxHeartbeats 4000000 in
set_option maxRecDepth 100000 in
theorem c_X3_isFine (lM : Launch) (G : GG) (t rw cm tr : Nat) (cr : Int) (ly md aw ad ac ao ax : Nat) (SH : Nat → Option Nat) (SV : Nat → ShT) (LP : List Nat) (f : Nat → va_E) (n : Int) (h1 : -2147483648 ≤ n ∧ n < 2147483648) (h2 : shOK LP f SH SV) : Met lM yX3_isFine wsX3_isFine rmX3_isFine (ro G [.ref t, .int (iI (n))] ([(t, .inr (3, [.int (iI (((rw : Nat) : Int))), .int (iI (((cm : Nat) : Int))), .int (iI (((tr : Nat) : Int))), .int (iI (cr)), .int (iI (((ly : Nat) : Int))), .int (iI (((md : Nat) : Int))), .ref aw, .ref ad, .ref ac, .ref ao, .ref ax])), (ax, .inl (G.2 2, 30, .inr (.inr (.inr (.inr SH)))))] ++ va_pl LP f)) (roQ (.int (iI (b2i (fnAt SH SV n))))) 0 0 (fun _ => False) := by
  refine ro_of (cc := cX3_isFine) (maxL := 3) (ret := (some .boolean)) (by decide) rfl (Nat.le_of_ble_eq_true rfl) ?_
  intro pM eM sM mM bM tM cM hx hb hr hts hown hlocks hml hG hP ls hl
  have hown : sM.vm.findClass RX3 = some mM.cls := hown
  have hl : lv_has ls 3 [(0, .ref t), (1, .int (iI (n)))] := hl
  refine lv_aload_n hx hb dX3_isFine_0 rfl (lv_at hl 0 rfl) ?_
  refine lv_iload_n hx hb dX3_isFine_1 rfl (lv_at hl 1 rfl) ?_
  refine k_roV (rest := []) [.int (iI (n))] ⟨hx, hb, hml, hown, hts⟩ (c_X3_find lM G t rw cm tr cr ly md aw ad ac ao ax SH n (by omega)) (cwV 1 hts gX3_isFine_X3_find rfl rfl rfl (by decide +kernel) ⟨Nat.le_of_ble_eq_true rfl, Nat.le_of_ble_eq_true rfl⟩) hG (va_recv hG.1 hP (ci := 3) (q0 := 0) rfl rfl) (hP.sub (ws' := [(t, .inr (3, [.int (iI (((rw : Nat) : Int))), .int (iI (((cm : Nat) : Int))), .int (iI (((tr : Nat) : Int))), .int (iI (cr)), .int (iI (((ly : Nat) : Int))), .int (iI (((md : Nat) : Int))), .ref aw, .ref ad, .ref ac, .ref ao, .ref ax])), (ax, .inl (G.2 2, 30, .inr (.inr (.inr (.inr SH)))))]) [0, 1] rfl) rfl rfl hl.1 (Nat.le_of_ble_eq_true rfl) ⟨Nat.zero_le _, Nat.zero_le _⟩ dX3_isFine_2 ?_
  rcases hq_2 : (if 0 ≤ n ∧ n ≤ 29 then SH n.toNat else none) with _ | y
  · refine lv_astore_nN (lv' := [(2, .null), (0, .ref t), (1, .int (iI (n)))]) hx hb dX3_isFine_5 rfl hl (by decide) rfl (fun ls hl => ?_)
    refine lv_aload_nN hx hb dX3_isFine_6 rfl (lv_at hl 0 rfl) ?_
    refine lv_ifnullN (tgt := 21) hx hb dX3_isFine_7 (by decide) ?_
    refine lv_iconst (v := iI (0)) hx hb dX3_isFine_21 rfl ?_
    exact ro_zret (a := 0) hx hb hr hlocks dX3_isFine_22 (by rw [show fnAt SH SV n = false by unfold fnAt; split; rw [if_pos (by assumption)] at hq_2; rw [hq_2]; rfl]; rfl)
  · have hin9 : 0 ≤ n ∧ n ≤ 29 := by
      rcases Classical.em (0 ≤ n ∧ n ≤ 29) with g9 | g9
      · exact g9
      · rw [if_neg g9] at hq_2
        cases hq_2
    rw [if_pos hin9] at hq_2
    obtain ⟨hyL, hyf, hyv⟩ := h2 _ y (by omega) hq_2
    obtain ⟨kp, hkp⟩ := va_pl_get (X := [(t, .inr (3, [.int (iI (((rw : Nat) : Int))), .int (iI (((cm : Nat) : Int))), .int (iI (((tr : Nat) : Int))), .int (iI (cr)), .int (iI (((ly : Nat) : Int))), .int (iI (((md : Nat) : Int))), .ref aw, .ref ad, .ref ac, .ref ao, .ref ax])), (ax, .inl (G.2 2, 30, .inr (.inr (.inr (.inr SH)))))]) (f := f) hyL
    rw [hyf] at hkp
    have hW := pool0 hP kp hkp
    refine lv_astore_n (lv' := [(2, .ref y), (0, .ref t), (1, .int (iI (n)))]) hx hb dX3_isFine_5 rfl hl (by decide) rfl (fun ls hl => ?_)
    refine lv_aload_n hx hb dX3_isFine_6 rfl (lv_at hl 0 rfl) ?_
    refine lv_ifnull hx hb dX3_isFine_7 ?_
    refine lv_aload_n hx hb dX3_isFine_10 rfl (lv_at hl 0 rfl) ?_
    refine va_get (D := G.1) (ci := 2) (v := .int (iI (b2i ((SV n.toNat).2.2.2.2.2.2)))) (C := RX2) (T := TX2) (N := 7) hx hb hts inX2_X3_isFine hown hG.1 hW 0 rfl rfl 6 (by decide) (hts (.fieldLink RX3 63 "InkOverInk$Shape" "fine" "Z") (by decide +kernel)) (fun _ h9 => h9) rfl dX3_isFine_11 ?_
    refine k_ifB (B := (SV n.toNat).2.2.2.2.2.2) (tgt := 21) hx hb dX3_isFine_14 (by decide) (fun c_14 => ?_) (fun c_14 => ?_)
    · refine lv_iconst (v := iI (0)) hx hb dX3_isFine_21 rfl ?_
      exact ro_zret (a := 0) hx hb hr hlocks dX3_isFine_22 (by rw [show fnAt SH SV n = false by rw [fnAt, if_pos hin9, hq_2]; exact c_14]; rfl)
    · refine lv_iconst (v := iI (1)) hx hb dX3_isFine_17 rfl ?_
      refine lv_goto (tgt := 22) hx hb dX3_isFine_18 (by decide) ?_
      exact ro_zret (a := 1) hx hb hr hlocks dX3_isFine_22 (by rw [show fnAt SH SV n = true by rw [fnAt, if_pos hin9, hq_2]; exact c_14]; rfl)

def rmX3_drop : Room := { frames := 3, cells := 0, slots := 0, locals := 65 }
set_option maxRecDepth 20000 in
theorem inX3_X3_drop : ∀ w ∈ wsX30, w ∈ wsX3_drop := by decide +kernel
set_option maxHeartbeats 4000000 in
set_option maxRecDepth 100000 in
theorem c_X3_drop (lM : Launch) (G : GG) (sz : Nat) (t rw cm tr : Nat) (cr : Int) (ly md aw ad ac ao ax : Nat) (OR : Nat → Nat) (SH : Nat → Option Nat) (n k : Nat) (h1 : plc OR ly (n : Int) ly = (k : Int)) (h2 : k < ly) (h3 : ly ≤ 30) (h4 : ∀ k, OR k < 30) (h5 : n < 30) : Met lM yX3_drop wsX3_drop rmX3_drop (rwP G [.ref t, .int (iI (((n : Nat) : Int)))] [(t, .inr (3, [.int (iI (((rw : Nat) : Int))), .int (iI (((cm : Nat) : Int))), .int (iI (((tr : Nat) : Int))), .int (iI (cr)), .int (iI (((ly : Nat) : Int))), .int (iI (((md : Nat) : Int))), .ref aw, .ref ad, .ref ac, .ref ao, .ref ax])), (ao, .inl (G.2 0, 30, .inl (fun iX => iI ((OR iX : Nat) : Int)))), (ax, .inl (G.2 2, 30, .inr (.inr (.inr (.inr SH)))))] [] sz) (rwA G (va_A [(t, .inr (3, [.int (iI (((rw : Nat) : Int))), .int (iI (((cm : Nat) : Int))), .int (iI (((tr : Nat) : Int))), .int (iI (cr)), .int (iI (((ly : Nat) : Int))), .int (iI (((md : Nat) : Int))), .ref aw, .ref ad, .ref ac, .ref ao, .ref ax])), (ao, .inl (G.2 0, 30, .inl (fun iX => iI ((OR iX : Nat) : Int)))), (ax, .inl (G.2 2, 30, .inr (.inr (.inr (.inr SH)))))] sz) (det none [(t, .inr (3, [.int (iI (((rw : Nat) : Int))), .int (iI (((cm : Nat) : Int))), .int (iI (((tr : Nat) : Int))), .int (iI (cr)), .int (iI (((ly - 1 : Nat) : Int))), .int (iI (((md : Nat) : Int))), .ref aw, .ref ad, .ref ac, .ref ao, .ref ax])), (ao, .inl (G.2 0, 30, .inl (fun iX => iI (((shD OR k ly) iX : Nat) : Int)))), (ax, .inl (G.2 2, 30, .inr (.inr (.inr (.inr (va_up SH n none))))))])) 0 0 (va_A [(t, .inr (3, [.int (iI (((rw : Nat) : Int))), .int (iI (((cm : Nat) : Int))), .int (iI (((tr : Nat) : Int))), .int (iI (cr)), .int (iI (((ly : Nat) : Int))), .int (iI (((md : Nat) : Int))), .ref aw, .ref ad, .ref ac, .ref ao, .ref ax])), (ao, .inl (G.2 0, 30, .inl (fun iX => iI ((OR iX : Nat) : Int)))), (ax, .inl (G.2 2, 30, .inr (.inr (.inr (.inr SH)))))] sz) := by
  refine rw_of (cc := cX3_drop) (maxL := 4) (ret := none) (by decide) rfl (Nat.le_of_ble_eq_true rfl) ?_
  intro pM eM sM mM bM tM cM hx hb hr hts hown hlocks hml hin hG A hA hP hD hS hV0 hVA ls hl
  have hown : sM.vm.findClass RX3 = some mM.cls := hown
  have hl : lv_has ls 4 [(0, .ref t), (1, .int (iI (((n : Nat) : Int))))] := hl
  refine lv_aload_n hx hb dX3_drop_0 rfl (lv_at hl 0 rfl) ?_
  refine lv_iload_n hx hb dX3_drop_1 rfl (lv_at hl 1 rfl) ?_
  refine k_roV (rest := []) [.int (iI (((n : Nat) : Int)))] ⟨hx, hb, hml, hown, hts⟩ (c_X3_placeOf lM G t rw cm tr cr ly md aw ad ac ao ax OR ((n : Nat) : Int) (by omega) (by omega) h4) (cwV 1 hts gX3_drop_X3_placeOf rfl rfl rfl (by decide +kernel) ⟨Nat.le_of_ble_eq_true rfl, Nat.le_of_ble_eq_true rfl⟩) hG (va_recv hG.1 hP (ci := 3) (q0 := 0) rfl rfl) (hP.sub (ws' := [(t, .inr (3, [.int (iI (((rw : Nat) : Int))), .int (iI (((cm : Nat) : Int))), .int (iI (((tr : Nat) : Int))), .int (iI (cr)), .int (iI (((ly : Nat) : Int))), .int (iI (((md : Nat) : Int))), .ref aw, .ref ad, .ref ac, .ref ao, .ref ax])), (ao, .inl (G.2 0, 30, .inl (fun iX => iI ((OR iX : Nat) : Int))))]) [0, 1] rfl) rfl rfl hl.1 (Nat.le_of_ble_eq_true rfl) ⟨Nat.zero_le _, Nat.zero_le _⟩ dX3_drop_2 ?_
  rw [h1]
  refine lv_istore_n (lv' := [(2, .int (iI (((k : Nat) : Int)))), (0, .ref t), (1, .int (iI (((n : Nat) : Int))))]) hx hb dX3_drop_5 rfl hl (by decide) rfl (fun ls hl => ?_)
  refine lv_iload_n hx hb dX3_drop_6 rfl (lv_at hl 0 rfl) ?_
  refine lv_iconst (v := iI (-1)) hx hb dX3_drop_7 rfl ?_
  refine k_icmp_ne (a := ((k : Nat) : Int)) (b := (-1)) (tgt := 12) hx hb (by omega) (by omega) dX3_drop_8 (by decide) (fun c_8 => ?_) (fun c_8 => ?_)
  · refine lv_iload_n hx hb dX3_drop_12 rfl (lv_at hl 0 rfl) ?_
    refine lv_iconst (v := iI (1)) hx hb dX3_drop_13 rfl ?_
    refine k_iaddN (a := k) (b := 1) hx hb dX3_drop_14 ?_
    refine lv_istore_n (lv' := [(3, .int (iI (((k + 1 : Nat) : Int)))), (2, .int (iI (((k : Nat) : Int)))), (0, .ref t), (1, .int (iI (((n : Nat) : Int))))]) hx hb dX3_drop_15 rfl hl (by decide) rfl (fun ls hl => ?_)
    have loop_16 : ∀ (n_16 : Nat) (a : Nat) (E : Nat → Nat), (k + 1 ≤ a ∧ a ≤ ly) → (E = shD OR k a) → ly + 1 - a ≤ n_16 → ∀ (H : Heap) (locs : List Loc), va_P G.1 vwCl [(t, .inr (3, [.int (iI (((rw : Nat) : Int))), .int (iI (((cm : Nat) : Int))), .int (iI (((tr : Nat) : Int))), .int (iI (cr)), .int (iI (((ly : Nat) : Int))), .int (iI (((md : Nat) : Int))), .ref aw, .ref ad, .ref ac, .ref ao, .ref ax])), (ao, .inl (G.2 0, 30, .inl (fun iX => iI ((E iX : Nat) : Int)))), (ax, .inl (G.2 2, 30, .inr (.inr (.inr (.inr SH)))))] H → va_D A [(t, .inr (3, [.int (iI (((rw : Nat) : Int))), .int (iI (((cm : Nat) : Int))), .int (iI (((tr : Nat) : Int))), .int (iI (cr)), .int (iI (((ly : Nat) : Int))), .int (iI (((md : Nat) : Int))), .ref aw, .ref ad, .ref ac, .ref ao, .ref ax])), (ao, .inl (G.2 0, 30, .inl (fun iX => iI ((E iX : Nat) : Int)))), (ax, .inl (G.2 2, 30, .inr (.inr (.inr (.inr SH)))))] → va_S A sM.heap H locs → ∀ ls : Array Slot, lv_has ls 4 [(0, .ref t), (1, .int (iI (((n : Nat) : Int)))), (2, .int (iI (((k : Nat) : Int)))), (3, .int (iI (((a : Nat) : Int))))] → W pM lM eM rmX3_drop sM mM ([.ref t, .int (iI (((n : Nat) : Int)))] : List Value).toArray bM tM cM H locs 0 0 (MQ bM (rwA G A (det none [(t, .inr (3, [.int (iI (((rw : Nat) : Int))), .int (iI (((cm : Nat) : Int))), .int (iI (((tr : Nat) : Int))), .int (iI (cr)), .int (iI (((ly - 1 : Nat) : Int))), .int (iI (((md : Nat) : Int))), .ref aw, .ref ad, .ref ac, .ref ao, .ref ax])), (ao, .inl (G.2 0, 30, .inl (fun iX => iI (((shD OR k ly) iX : Nat) : Int)))), (ax, .inl (G.2 2, 30, .inr (.inr (.inr (.inr (va_up SH n none))))))])) ([.ref t, .int (iI (((n : Nat) : Int)))] : List Value).toArray sM 0 0 A) (F0 mM 16 ls []) := by
      intro n_16
      induction n_16 with
      | zero =>
        intro a E ha hEE hm_16 H locs hP hD hS ls hl
        exact absurd hm_16 (by omega)
      | succ n_16 ih_16 =>
        intro a E ha hEE hm_16 H locs hP hD hS ls hl
        refine lv_iload_n hx hb dX3_drop_16 rfl (lv_at hl 3 rfl) ?_
        refine lv_aload_n hx hb dX3_drop_17 rfl (lv_at hl 0 rfl) ?_
        refine va_get (D := G.1) (ci := 3) (v := .int (iI (((ly : Nat) : Int)))) (C := RX3) (T := TX3) (N := 11) hx hb hts inX3_X3_drop hown hG.1 hP 0 rfl rfl 4 (by decide) (hts (.fieldLink RX3 43 "InkOverInk$Sheet" "lying" "I") (by decide +kernel)) (fun _ h9 => h9) rfl dX3_drop_18 ?_
        refine k_icmp_ge (a := ((a : Nat) : Int)) (b := ((ly : Nat) : Int)) (tgt := 44) hx hb (by omega) (by omega) dX3_drop_21 (by decide) (fun c_21 => ?_) (fun c_21 => ?_)
        · refine lv_aload_n hx hb dX3_drop_44 rfl (lv_at hl 0 rfl) ?_
          refine lv_dup hx hb dX3_drop_45 rfl ?_
          refine va_get (D := G.1) (ci := 3) (v := .int (iI (((ly : Nat) : Int)))) (C := RX3) (T := TX3) (N := 11) hx hb hts inX3_X3_drop hown hG.1 hP 0 rfl rfl 4 (by decide) (hts (.fieldLink RX3 43 "InkOverInk$Sheet" "lying" "I") (by decide +kernel)) (fun _ h9 => h9) rfl dX3_drop_46 ?_
          refine lv_iconst (v := iI (1)) hx hb dX3_drop_49 rfl ?_
          refine k_isubN (a := ly) (b := 1) hx hb (by omega) dX3_drop_50 ?_
          refine va_put (D := G.1) (ci := 3) (v := .int (iI (((ly - 1 : Nat) : Int)))) (ty := .int) (C := RX3) (T := TX3) (N := 11) hx hb hts inX3_X3_drop tyX3 tyX3_ok nmX3 hown hG.1 hP hD hS 0 rfl rfl 4 (by decide) (hts (.fieldLink RX3 43 "InkOverInk$Sheet" "lying" "I") (by decide +kernel)) (fun _ h9 => h9) rfl (by decide +kernel) rfl rfl (Nat.le_of_ble_eq_true rfl) dX3_drop_51 (fun H locs hP hD hS => ?_)
          have hP : va_P G.1 vwCl [(t, .inr (3, [.int (iI (((rw : Nat) : Int))), .int (iI (((cm : Nat) : Int))), .int (iI (((tr : Nat) : Int))), .int (iI (cr)), .int (iI (((ly - 1 : Nat) : Int))), .int (iI (((md : Nat) : Int))), .ref aw, .ref ad, .ref ac, .ref ao, .ref ax])), (ao, .inl (G.2 0, 30, .inl (fun iX => iI ((E iX : Nat) : Int)))), (ax, .inl (G.2 2, 30, .inr (.inr (.inr (.inr SH)))))] H := hP
          have hD : va_D A [(t, .inr (3, [.int (iI (((rw : Nat) : Int))), .int (iI (((cm : Nat) : Int))), .int (iI (((tr : Nat) : Int))), .int (iI (cr)), .int (iI (((ly - 1 : Nat) : Int))), .int (iI (((md : Nat) : Int))), .ref aw, .ref ad, .ref ac, .ref ao, .ref ax])), (ao, .inl (G.2 0, 30, .inl (fun iX => iI ((E iX : Nat) : Int)))), (ax, .inl (G.2 2, 30, .inr (.inr (.inr (.inr SH)))))] := hD
          refine lv_aload_n hx hb dX3_drop_54 rfl (lv_at hl 0 rfl) ?_
          refine lv_iload_n hx hb dX3_drop_55 rfl (lv_at hl 1 rfl) ?_
          refine lv_null hx hb dX3_drop_56 ?_
          refine k_rwV (rest := []) (wr := [(t, .inr (3, [.int (iI (((rw : Nat) : Int))), .int (iI (((cm : Nat) : Int))), .int (iI (((tr : Nat) : Int))), .int (iI (cr)), .int (iI (((ly - 1 : Nat) : Int))), .int (iI (((md : Nat) : Int))), .ref aw, .ref ad, .ref ac, .ref ao, .ref ax])), (ao, .inl (G.2 0, 30, .inl (fun iX => iI ((E iX : Nat) : Int))))]) (w := [(ax, .inl (G.2 2, 30, .inr (.inr (.inr (.inr SH)))))]) (v := [(t, .inr (3, [.int (iI (((rw : Nat) : Int))), .int (iI (((cm : Nat) : Int))), .int (iI (((tr : Nat) : Int))), .int (iI (cr)), .int (iI ((((ly - 1) : Nat) : Int))), .int (iI (((md : Nat) : Int))), .ref aw, .ref ad, .ref ac, .ref ao, .ref ax]))]) [.int (iI (((n : Nat) : Int))), .null] ⟨hx, hb, hml, hown, hts⟩ (c_X3_replace_0 lM G H.size t rw cm tr cr (ly - 1) md aw ad ac ao ax SH n (by omega)) (cwV 2 hts gX3_drop_X3_replace rfl rfl rfl (by decide +kernel) ⟨Nat.le_of_ble_eq_true rfl, Nat.le_of_ble_eq_true rfl⟩) hG (va_recv hG.1 hP (ci := 3) (q0 := 0) rfl rfl) hP hD hS hA [2] [0, 1] rfl rfl (by decide) (hP.sub (ws' := [(t, .inr (3, [.int (iI (((rw : Nat) : Int))), .int (iI (((cm : Nat) : Int))), .int (iI (((tr : Nat) : Int))), .int (iI (cr)), .int (iI ((((ly - 1) : Nat) : Int))), .int (iI (((md : Nat) : Int))), .ref aw, .ref ad, .ref ac, .ref ao, .ref ax]))]) [0] rfl) (ap_own (v' := [(t, .inr (3, [.int (iI (((rw : Nat) : Int))), .int (iI (((cm : Nat) : Int))), .int (iI (((tr : Nat) : Int))), .int (iI (cr)), .int (iI ((((ly - 1) : Nat) : Int))), .int (iI (((md : Nat) : Int))), .ref aw, .ref ad, .ref ac, .ref ao, .ref ax]))]) hD [2] [0] rfl rfl (by decide)) rfl rfl hl.1 (Nat.le_of_ble_eq_true rfl) ⟨Nat.le_of_ble_eq_true rfl, Nat.le_of_ble_eq_true rfl⟩ dX3_drop_57 (fun o9 w9 H locs h9 hP hD hS => ?_)
          obtain ⟨rfl, rfl⟩ := h9
          have hP := hP.sub (ws' := [(t, .inr (3, [.int (iI (((rw : Nat) : Int))), .int (iI (((cm : Nat) : Int))), .int (iI (((tr : Nat) : Int))), .int (iI (cr)), .int (iI (((ly - 1 : Nat) : Int))), .int (iI (((md : Nat) : Int))), .ref aw, .ref ad, .ref ac, .ref ao, .ref ax])), (ao, .inl (G.2 0, 30, .inl (fun iX => iI ((E iX : Nat) : Int)))), (ax, .inl (G.2 2, 30, .inr (.inr (.inr (.inr (va_up SH n none))))))]) [0, 1, 2] rfl
          have hD := hD.sub (ws' := [(t, .inr (3, [.int (iI (((rw : Nat) : Int))), .int (iI (((cm : Nat) : Int))), .int (iI (((tr : Nat) : Int))), .int (iI (cr)), .int (iI (((ly - 1 : Nat) : Int))), .int (iI (((md : Nat) : Int))), .ref aw, .ref ad, .ref ac, .ref ao, .ref ax])), (ao, .inl (G.2 0, 30, .inl (fun iX => iI ((E iX : Nat) : Int)))), (ax, .inl (G.2 2, 30, .inr (.inr (.inr (.inr (va_up SH n none))))))]) [0, 1, 2] (by decide) rfl
          exact rw_vret hx hb hr hlocks hP hD hS dX3_drop_60 (⟨rfl, by rw [hEE, show a = ly by omega]⟩)
        · refine lv_aload_n hx hb dX3_drop_24 rfl (lv_at hl 0 rfl) ?_
          refine va_get (D := G.1) (ci := 3) (v := .ref ao) (C := RX3) (T := TX3) (N := 11) hx hb hts inX3_X3_drop hown hG.1 hP 0 rfl rfl 9 (by decide) (hts (.fieldLink RX3 28 "InkOverInk$Sheet" "order" "[I") (by decide +kernel)) (fun _ h9 => h9) rfl dX3_drop_25 ?_
          refine lv_iload_n hx hb dX3_drop_28 rfl (lv_at hl 3 rfl) ?_
          refine lv_iconst (v := iI (1)) hx hb dX3_drop_29 rfl ?_
          refine k_isubN (a := a) (b := 1) hx hb (by omega) dX3_drop_30 ?_
          refine lv_aload_n hx hb dX3_drop_31 rfl (lv_at hl 0 rfl) ?_
          refine va_get (D := G.1) (ci := 3) (v := .ref ao) (C := RX3) (T := TX3) (N := 11) hx hb hts inX3_X3_drop hown hG.1 hP 0 rfl rfl 9 (by decide) (hts (.fieldLink RX3 28 "InkOverInk$Sheet" "order" "[I") (by decide +kernel)) (fun _ h9 => h9) rfl dX3_drop_32 ?_
          refine lv_iload_n hx hb dX3_drop_35 rfl (lv_at hl 3 rfl) ?_
          refine k_ialdN (F := (fun iX => ((E iX : Nat) : Int))) (z := a) hx hb hG hP 1 rfl (by omega) (by decide) dX3_drop_36 ?_
          refine k_iastNN (F := E) (z := a - 1) (v := E a) hx hb hG hP hD hS 1 [(t, .inr (3, [.int (iI (((rw : Nat) : Int))), .int (iI (((cm : Nat) : Int))), .int (iI (((tr : Nat) : Int))), .int (iI (cr)), .int (iI (((ly : Nat) : Int))), .int (iI (((md : Nat) : Int))), .ref aw, .ref ad, .ref ac, .ref ao, .ref ax])), (ao, .inl (G.2 0, 30, .inl (fun iX => iI (((va_up E (a - 1) (E a)) iX : Nat) : Int)))), (ax, .inl (G.2 2, 30, .inr (.inr (.inr (.inr SH)))))] rfl (by omega) (by decide) rfl dX3_drop_37 (fun H locs hP hD hS => ?_)
          refine k_iincN (n := 1) (lv' := [(3, .int (iI (((a + 1 : Nat) : Int)))), (0, .ref t), (1, .int (iI (((n : Nat) : Int)))), (2, .int (iI (((k : Nat) : Int))))]) hx hb dX3_drop_38 hl (k := 3) rfl (by decide) rfl (fun ls hl => ?_)
          refine lv_goto (tgt := 16) hx hb dX3_drop_41 (by decide) ?_
          exact ih_16 (a + 1) (va_up E (a - 1) (E a)) (by omega) (by rw [hEE]; exact shD_s OR ha.1) (by omega) H locs hP hD hS ls (lv_sub hl [1, 2, 3, 0] rfl)
    exact loop_16 (ly + 1 - (k + 1)) (k + 1) OR (by omega) (shD_0 OR k) (Nat.le_refl _) sM.heap [] hP hD hS ls (lv_sub hl [2, 3, 1, 0] rfl)
  · exact absurd c_8 (by omega)

def rmX3_swap : Room := { frames := 3, cells := 0, slots := 0, locals := 65 }
set_option maxRecDepth 20000 in
theorem inX3_X3_swap : ∀ w ∈ wsX30, w ∈ wsX3_swap := by decide +kernel
set_option maxHeartbeats 4000000 in
set_option maxRecDepth 100000 in
theorem c_X3_swap (lM : Launch) (G : GG) (sz : Nat) (t rw cm tr : Nat) (cr : Int) (ly md aw ad ac ao ax : Nat) (OR : Nat → Nat) (n k j : Nat) (sp : Int) (h1 : plc OR ly (n : Int) ly = (k : Int)) (h2 : (k : Int) + sp = (j : Int)) (h3 : k < ly ∧ j < ly) (h4 : ly ≤ 30) (h5 : ∀ k, OR k < 30) (h6 : n < 30) : Met lM yX3_swap wsX3_swap rmX3_swap (rwP G [.ref t, .int (iI (((n : Nat) : Int))), .int (iI (sp))] [(ao, .inl (G.2 0, 30, .inl (fun iX => iI ((OR iX : Nat) : Int))))] [(t, .inr (3, [.int (iI (((rw : Nat) : Int))), .int (iI (((cm : Nat) : Int))), .int (iI (((tr : Nat) : Int))), .int (iI (cr)), .int (iI (((ly : Nat) : Int))), .int (iI (((md : Nat) : Int))), .ref aw, .ref ad, .ref ac, .ref ao, .ref ax]))] sz) (rwA G (va_A [(ao, .inl (G.2 0, 30, .inl (fun iX => iI ((OR iX : Nat) : Int))))] sz) (det (some (.int (iI (b2i true)))) [(ao, .inl (G.2 0, 30, .inl (fun iX => iI (((va_up (va_up OR k (OR j)) j n) iX : Nat) : Int))))])) 0 0 (va_A [(ao, .inl (G.2 0, 30, .inl (fun iX => iI ((OR iX : Nat) : Int))))] sz) := by
  refine rw_of (cc := cX3_swap) (maxL := 5) (ret := (some .boolean)) (by decide) rfl (Nat.le_of_ble_eq_true rfl) ?_
  intro pM eM sM mM bM tM cM hx hb hr hts hown hlocks hml hin hG A hA hP hD hS hV0 hVA ls hl
  have hown : sM.vm.findClass RX3 = some mM.cls := hown
  have hl : lv_has ls 5 [(0, .ref t), (1, .int (iI (((n : Nat) : Int)))), (2, .int (iI (sp)))] := hl
  refine lv_aload_n hx hb dX3_swap_0 rfl (lv_at hl 0 rfl) ?_
  refine lv_iload_n hx hb dX3_swap_1 rfl (lv_at hl 1 rfl) ?_
  refine k_roV (rest := []) [.int (iI (((n : Nat) : Int)))] ⟨hx, hb, hml, hown, hts⟩ (c_X3_placeOf lM G t rw cm tr cr ly md aw ad ac ao ax OR ((n : Nat) : Int) (by omega) (by omega) h5) (cwV 1 hts gX3_swap_X3_placeOf rfl rfl rfl (by decide +kernel) ⟨Nat.le_of_ble_eq_true rfl, Nat.le_of_ble_eq_true rfl⟩) hG (va_recv hG.1 (rk hV0 hVA hS) (ci := 3) (q0 := 0) rfl rfl) (va_P.app (w1 := [(t, .inr (3, [.int (iI (((rw : Nat) : Int))), .int (iI (((cm : Nat) : Int))), .int (iI (((tr : Nat) : Int))), .int (iI (cr)), .int (iI (((ly : Nat) : Int))), .int (iI (((md : Nat) : Int))), .ref aw, .ref ad, .ref ac, .ref ao, .ref ax]))]) (w2 := [(ao, .inl (G.2 0, 30, .inl (fun iX => iI ((OR iX : Nat) : Int))))]) ((rk hV0 hVA hS).sub (ws' := [(t, .inr (3, [.int (iI (((rw : Nat) : Int))), .int (iI (((cm : Nat) : Int))), .int (iI (((tr : Nat) : Int))), .int (iI (cr)), .int (iI (((ly : Nat) : Int))), .int (iI (((md : Nat) : Int))), .ref aw, .ref ad, .ref ac, .ref ao, .ref ax]))]) [0] rfl) (hP.sub (ws' := [(ao, .inl (G.2 0, 30, .inl (fun iX => iI ((OR iX : Nat) : Int))))]) [0] rfl)) rfl rfl hl.1 (Nat.le_of_ble_eq_true rfl) ⟨Nat.zero_le _, Nat.zero_le _⟩ dX3_swap_2 ?_
  rw [h1]
  refine lv_istore_n (lv' := [(3, .int (iI (((k : Nat) : Int)))), (0, .ref t), (1, .int (iI (((n : Nat) : Int)))), (2, .int (iI (sp)))]) hx hb dX3_swap_5 rfl hl (by decide) rfl (fun ls hl => ?_)
  refine lv_iload_n hx hb dX3_swap_6 rfl (lv_at hl 0 rfl) ?_
  refine lv_iload_n hx hb dX3_swap_7 rfl (lv_at hl 3 rfl) ?_
  refine k_iadd (a := ((k : Nat) : Int)) (b := sp) hx hb dX3_swap_8 ?_
  rw [h2]
  refine lv_istore (lv' := [(4, .int (iI (((j : Nat) : Int)))), (3, .int (iI (((k : Nat) : Int)))), (0, .ref t), (1, .int (iI (((n : Nat) : Int)))), (2, .int (iI (sp)))]) hx hb dX3_swap_9 hl (by decide) rfl (fun ls hl => ?_)
  refine lv_iload_n hx hb dX3_swap_11 rfl (lv_at hl 1 rfl) ?_
  refine lv_iconst (v := iI (-1)) hx hb dX3_swap_12 rfl ?_
  refine k_icmp_eq (a := ((k : Nat) : Int)) (b := (-1)) (tgt := 31) hx hb (by omega) (by omega) dX3_swap_13 (by decide) (fun c_13 => ?_) (fun c_13 => ?_)
  · exact absurd c_13 (by omega)
  · refine lv_iload hx hb dX3_swap_16 (lv_at hl 0 rfl) ?_
    refine lv_iconst (v := iI (0)) hx hb dX3_swap_18 rfl ?_
    refine lv_aload_n hx hb dX3_swap_19 rfl (lv_at hl 2 rfl) ?_
    refine va_get (D := G.1) (ci := 3) (v := .int (iI (((ly : Nat) : Int)))) (C := RX3) (T := TX3) (N := 11) hx hb hts inX3_X3_swap hown hG.1 (rk hV0 hVA hS) 0 rfl rfl 4 (by decide) (hts (.fieldLink RX3 43 "InkOverInk$Sheet" "lying" "I") (by decide +kernel)) (fun _ h9 => h9) rfl dX3_swap_20 ?_
    refine lv_iconst (v := iI (1)) hx hb dX3_swap_23 rfl ?_
    refine k_isub (a := ((ly : Nat) : Int)) (b := 1) hx hb dX3_swap_24 ?_
    refine k_roN (rest := []) [.int (iI (((j : Nat) : Int))), .int (iI (0)), .int (iI (((ly : Nat) : Int) - 1))] ⟨hx, hb, hml, hown, hts⟩ (c_X4_isWithin lM G ((j : Nat) : Int) 0 (((ly : Nat) : Int) - 1) (by omega) (by omega) (by omega)) ⟨va_cnB 3 hts gX3_swap_X4_isWithin_n55 rfl rfl rfl hG.2.1.1 (hts (.initialized RX4) (by decide +kernel)) (by decide +kernel) ⟨Nat.le_of_ble_eq_true rfl, Nat.le_of_ble_eq_true rfl⟩, hts (.static yX4_isWithin) (by decide +kernel), trivial⟩ hG (fun k q h => by simp at h) rfl rfl hl.1 (Nat.le_of_ble_eq_true rfl) ⟨Nat.zero_le _, Nat.zero_le _⟩ dX3_swap_25 ?_
    refine k_ifnD (P := 0 ≤ ((j : Nat) : Int) ∧ ((j : Nat) : Int) ≤ (((ly : Nat) : Int) - 1)) (tgt := 33) hx hb dX3_swap_28 (by decide) (fun c_28 => ?_) (fun c_28 => ?_)
    · refine lv_aload_n hx hb dX3_swap_33 rfl (lv_at hl 2 rfl) ?_
      refine va_get (D := G.1) (ci := 3) (v := .ref ao) (C := RX3) (T := TX3) (N := 11) hx hb hts inX3_X3_swap hown hG.1 (rk hV0 hVA hS) 0 rfl rfl 9 (by decide) (hts (.fieldLink RX3 28 "InkOverInk$Sheet" "order" "[I") (by decide +kernel)) (fun _ h9 => h9) rfl dX3_swap_34 ?_
      refine lv_iload_n hx hb dX3_swap_37 rfl (lv_at hl 1 rfl) ?_
      refine lv_aload_n hx hb dX3_swap_38 rfl (lv_at hl 2 rfl) ?_
      refine va_get (D := G.1) (ci := 3) (v := .ref ao) (C := RX3) (T := TX3) (N := 11) hx hb hts inX3_X3_swap hown hG.1 (rk hV0 hVA hS) 0 rfl rfl 9 (by decide) (hts (.fieldLink RX3 28 "InkOverInk$Sheet" "order" "[I") (by decide +kernel)) (fun _ h9 => h9) rfl dX3_swap_39 ?_
      refine lv_iload hx hb dX3_swap_42 (lv_at hl 0 rfl) ?_
      refine k_ialdN (F := (fun iX => ((OR iX : Nat) : Int))) (z := j) hx hb hG hP 0 rfl (by omega) (by decide) dX3_swap_44 ?_
      refine k_iastNN (F := OR) (z := k) (v := OR j) hx hb hG hP hD hS 0 [(ao, .inl (G.2 0, 30, .inl (fun iX => iI (((va_up OR k (OR j)) iX : Nat) : Int))))] rfl (by omega) (by decide) rfl dX3_swap_45 (fun H locs hP hD hS => ?_)
      refine lv_aload_n hx hb dX3_swap_46 rfl (lv_at hl 2 rfl) ?_
      refine va_get (D := G.1) (ci := 3) (v := .ref ao) (C := RX3) (T := TX3) (N := 11) hx hb hts inX3_X3_swap hown hG.1 (rk hV0 hVA hS) 0 rfl rfl 9 (by decide) (hts (.fieldLink RX3 28 "InkOverInk$Sheet" "order" "[I") (by decide +kernel)) (fun _ h9 => h9) rfl dX3_swap_47 ?_
      refine lv_iload hx hb dX3_swap_50 (lv_at hl 0 rfl) ?_
      refine lv_iload_n hx hb dX3_swap_52 rfl (lv_at hl 3 rfl) ?_
      refine k_iastNN (F := (va_up OR k (OR j))) (z := j) (v := n) hx hb hG hP hD hS 0 [(ao, .inl (G.2 0, 30, .inl (fun iX => iI (((va_up (va_up OR k (OR j)) j n) iX : Nat) : Int))))] rfl (by omega) (by decide) rfl dX3_swap_53 (fun H locs hP hD hS => ?_)
      refine lv_iconst (v := iI (1)) hx hb dX3_swap_54 rfl ?_
      exact rw_zret (a := 1) (b := true) hx hb hr hlocks hP hD hS dX3_swap_55 rfl (⟨rfl, rfl⟩)
    · exact absurd (show 0 ≤ ((j : Nat) : Int) ∧ ((j : Nat) : Int) ≤ ((ly : Nat) : Int) - 1 by omega) c_28

set_option maxHeartbeats 4000000 in
set_option maxRecDepth 100000 in
theorem c_X3_swap_N (lM : Launch) (G : GG) (t rw cm tr : Nat) (cr : Int) (ly md aw ad ac ao ax : Nat) (OR : Nat → Nat) (n sp : Int) (h1 : ¬ (0 ≤ plc OR ly n ly + sp ∧ plc OR ly n ly + sp ≤ (ly : Int) - 1)) (h2 : -2147483648 ≤ n ∧ n < 2147483648) (h3 : -1 ≤ sp ∧ sp ≤ 1) (h4 : ly ≤ 30) (h5 : ∀ k, OR k < 30) : Met lM yX3_swap wsX3_swap rmX3_swap (ro G [.ref t, .int (iI (n)), .int (iI (sp))] [(t, .inr (3, [.int (iI (((rw : Nat) : Int))), .int (iI (((cm : Nat) : Int))), .int (iI (((tr : Nat) : Int))), .int (iI (cr)), .int (iI (((ly : Nat) : Int))), .int (iI (((md : Nat) : Int))), .ref aw, .ref ad, .ref ac, .ref ao, .ref ax])), (ao, .inl (G.2 0, 30, .inl (fun iX => iI ((OR iX : Nat) : Int))))]) (roQ (.int (iI (b2i false)))) 0 0 (fun _ => False) := by
  refine ro_of (cc := cX3_swap) (maxL := 5) (ret := (some .boolean)) (by decide) rfl (Nat.le_of_ble_eq_true rfl) ?_
  intro pM eM sM mM bM tM cM hx hb hr hts hown hlocks hml hG hP ls hl
  have hown : sM.vm.findClass RX3 = some mM.cls := hown
  have hl : lv_has ls 5 [(0, .ref t), (1, .int (iI (n))), (2, .int (iI (sp)))] := hl
  refine lv_aload_n hx hb dX3_swap_0 rfl (lv_at hl 0 rfl) ?_
  refine lv_iload_n hx hb dX3_swap_1 rfl (lv_at hl 1 rfl) ?_
  refine k_roV (rest := []) [.int (iI (n))] ⟨hx, hb, hml, hown, hts⟩ (c_X3_placeOf lM G t rw cm tr cr ly md aw ad ac ao ax OR n (by omega) (by omega) h5) (cwV 1 hts gX3_swap_X3_placeOf rfl rfl rfl (by decide +kernel) ⟨Nat.le_of_ble_eq_true rfl, Nat.le_of_ble_eq_true rfl⟩) hG (va_recv hG.1 hP (ci := 3) (q0 := 0) rfl rfl) (hP.sub (ws' := [(t, .inr (3, [.int (iI (((rw : Nat) : Int))), .int (iI (((cm : Nat) : Int))), .int (iI (((tr : Nat) : Int))), .int (iI (cr)), .int (iI (((ly : Nat) : Int))), .int (iI (((md : Nat) : Int))), .ref aw, .ref ad, .ref ac, .ref ao, .ref ax])), (ao, .inl (G.2 0, 30, .inl (fun iX => iI ((OR iX : Nat) : Int))))]) [0, 1] rfl) rfl rfl hl.1 (Nat.le_of_ble_eq_true rfl) ⟨Nat.zero_le _, Nat.zero_le _⟩ dX3_swap_2 ?_
  refine lv_istore_n (lv' := [(3, .int (iI (plc OR ly n ly))), (0, .ref t), (1, .int (iI (n))), (2, .int (iI (sp)))]) hx hb dX3_swap_5 rfl hl (by decide) rfl (fun ls hl => ?_)
  have hpr := plc_rng OR ly n ly
  refine lv_iload_n hx hb dX3_swap_6 rfl (lv_at hl 0 rfl) ?_
  refine lv_iload_n hx hb dX3_swap_7 rfl (lv_at hl 3 rfl) ?_
  refine k_iadd (a := plc OR ly n ly) (b := sp) hx hb dX3_swap_8 ?_
  refine lv_istore (lv' := [(4, .int (iI ((plc OR ly n ly) + sp))), (3, .int (iI (plc OR ly n ly))), (0, .ref t), (1, .int (iI (n))), (2, .int (iI (sp)))]) hx hb dX3_swap_9 hl (by decide) rfl (fun ls hl => ?_)
  refine lv_iload_n hx hb dX3_swap_11 rfl (lv_at hl 1 rfl) ?_
  refine lv_iconst (v := iI (-1)) hx hb dX3_swap_12 rfl ?_
  refine k_icmp_eq (a := plc OR ly n ly) (b := (-1)) (tgt := 31) hx hb (by omega) (by omega) dX3_swap_13 (by decide) (fun c_13 => ?_) (fun c_13 => ?_)
  · refine lv_iconst (v := iI (0)) hx hb dX3_swap_31 rfl ?_
    exact ro_zret (a := 0) hx hb hr hlocks dX3_swap_32 (rfl)
  · refine lv_iload hx hb dX3_swap_16 (lv_at hl 0 rfl) ?_
    refine lv_iconst (v := iI (0)) hx hb dX3_swap_18 rfl ?_
    refine lv_aload_n hx hb dX3_swap_19 rfl (lv_at hl 2 rfl) ?_
    refine va_get (D := G.1) (ci := 3) (v := .int (iI (((ly : Nat) : Int)))) (C := RX3) (T := TX3) (N := 11) hx hb hts inX3_X3_swap hown hG.1 hP 0 rfl rfl 4 (by decide) (hts (.fieldLink RX3 43 "InkOverInk$Sheet" "lying" "I") (by decide +kernel)) (fun _ h9 => h9) rfl dX3_swap_20 ?_
    refine lv_iconst (v := iI (1)) hx hb dX3_swap_23 rfl ?_
    refine k_isub (a := ((ly : Nat) : Int)) (b := 1) hx hb dX3_swap_24 ?_
    refine k_roN (rest := []) [.int (iI ((plc OR ly n ly) + sp)), .int (iI (0)), .int (iI (((ly : Nat) : Int) - 1))] ⟨hx, hb, hml, hown, hts⟩ (c_X4_isWithin lM G ((plc OR ly n ly) + sp) 0 (((ly : Nat) : Int) - 1) (by omega) (by omega) (by omega)) ⟨va_cnB 3 hts gX3_swap_X4_isWithin_n55 rfl rfl rfl hG.2.1.1 (hts (.initialized RX4) (by decide +kernel)) (by decide +kernel) ⟨Nat.le_of_ble_eq_true rfl, Nat.le_of_ble_eq_true rfl⟩, hts (.static yX4_isWithin) (by decide +kernel), trivial⟩ hG (fun k q h => by simp at h) rfl rfl hl.1 (Nat.le_of_ble_eq_true rfl) ⟨Nat.zero_le _, Nat.zero_le _⟩ dX3_swap_25 ?_
    refine k_ifnD (P := 0 ≤ ((plc OR ly n ly) + sp) ∧ ((plc OR ly n ly) + sp) ≤ (((ly : Nat) : Int) - 1)) (tgt := 33) hx hb dX3_swap_28 (by decide) (fun c_28 => ?_) (fun c_28 => ?_)
    · exact absurd c_28 (by omega)
    · refine lv_iconst (v := iI (0)) hx hb dX3_swap_31 rfl ?_
      exact ro_zret (a := 0) hx hb hr hlocks dX3_swap_32 (rfl)
