def rmX4_page : Room := { frames := 2, cells := 0, slots := 0, locals := 37 }
set_option maxRecDepth 20000 in
theorem inX3_X4_page : ∀ w ∈ wsX30, w ∈ wsX4_page := by decide +kernel
set_option maxRecDepth 20000 in
theorem inX4_X4_page : ∀ w ∈ wsX40, w ∈ wsX4_page := by decide +kernel
set_option maxHeartbeats 4000000 in
set_option maxRecDepth 100000 in
theorem c_X4_page (lM : Launch) (G : GG) (sz : Nat) (x im : Nat) (t rw cm tr : Nat) (cr : Int) (ly md aw ad ac ao ax : Nat) (p sa qo qi qs qp qh dn : Nat) (r c : Nat) (h1 : 1 ≤ r ∧ r ≤ 16) (h2 : 1 ≤ c ∧ c ≤ 16) (h3 : dn < 100) : Met lM yX4_page wsX4_page rmX4_page (rwP G [.ref x, .int (iI (((r : Nat) : Int))), .int (iI (((c : Nat) : Int)))] [(t, .inr (3, [.int (iI (((rw : Nat) : Int))), .int (iI (((cm : Nat) : Int))), .int (iI (((tr : Nat) : Int))), .int (iI (cr)), .int (iI (((ly : Nat) : Int))), .int (iI (((md : Nat) : Int))), .ref aw, .ref ad, .ref ac, .ref ao, .ref ax])), (p, .inr (1, [.ref sa, .ref qo, .ref qi, .ref qs, .ref qp, .ref qh, .int (iI (((dn : Nat) : Int)))]))] [(x, .inr (4, [.ref t, .ref p, .ref im]))] sz) (rwA G (va_A [(t, .inr (3, [.int (iI (((rw : Nat) : Int))), .int (iI (((cm : Nat) : Int))), .int (iI (((tr : Nat) : Int))), .int (iI (cr)), .int (iI (((ly : Nat) : Int))), .int (iI (((md : Nat) : Int))), .ref aw, .ref ad, .ref ac, .ref ao, .ref ax])), (p, .inr (1, [.ref sa, .ref qo, .ref qi, .ref qs, .ref qp, .ref qh, .int (iI (((dn : Nat) : Int)))]))] sz) (det (some (.int (iI (b2i true)))) [(t, .inr (3, [.int (iI (((r : Nat) : Int))), .int (iI (((c : Nat) : Int))), .int (iI (((tr : Nat) : Int))), .int (iI (cr)), .int (iI (((ly : Nat) : Int))), .int (iI (((md : Nat) : Int))), .ref aw, .ref ad, .ref ac, .ref ao, .ref ax])), (p, .inr (1, [.ref sa, .ref qo, .ref qi, .ref qs, .ref qp, .ref qh, .int (iI (((min dn 0 : Nat) : Int)))]))])) 0 0 (va_A [(t, .inr (3, [.int (iI (((rw : Nat) : Int))), .int (iI (((cm : Nat) : Int))), .int (iI (((tr : Nat) : Int))), .int (iI (cr)), .int (iI (((ly : Nat) : Int))), .int (iI (((md : Nat) : Int))), .ref aw, .ref ad, .ref ac, .ref ao, .ref ax])), (p, .inr (1, [.ref sa, .ref qo, .ref qi, .ref qs, .ref qp, .ref qh, .int (iI (((dn : Nat) : Int)))]))] sz) := by
  refine rw_of (cc := cX4_page) (maxL := 3) (ret := (some .boolean)) (by decide) rfl (Nat.le_of_ble_eq_true rfl) ?_
  intro pM eM sM mM bM tM cM hx hb hr hts hown hlocks hml hin hG A hA hP hD hS hV0 hVA ls hl
  have hown : sM.vm.findClass RX4 = some mM.cls := hown
  have hl : lv_has ls 3 [(0, .ref x), (1, .int (iI (((r : Nat) : Int)))), (2, .int (iI (((c : Nat) : Int))))] := hl
  refine lv_iload_n hx hb dX4_page_0 rfl (lv_at hl 1 rfl) ?_
  refine lv_iconst (v := iI (1)) hx hb dX4_page_1 rfl ?_
  refine lv_bipush (v := iI (16)) hx hb dX4_page_2 (by decide) ?_
  refine k_roS (rest := []) [.int (iI (((r : Nat) : Int))), .int (iI (1)), .int (iI (16))] ⟨hx, hb, hml, hown, hts⟩ (c_X4_isWithin lM G ((r : Nat) : Int) 1 16 (by omega) (by omega) (by omega)) (va_cwS 3 hts gX4_page_X4_isWithin rfl rfl rfl (by decide +kernel) ⟨Nat.le_of_ble_eq_true rfl, Nat.le_of_ble_eq_true rfl⟩) hG (fun k q h => by simp at h) rfl rfl hl.1 (Nat.le_of_ble_eq_true rfl) ⟨Nat.zero_le _, Nat.zero_le _⟩ dX4_page_4 ?_
  refine k_ifD (P := 1 ≤ ((r : Nat) : Int) ∧ ((r : Nat) : Int) ≤ 16) (tgt := 20) hx hb dX4_page_7 (by decide) (fun c_7 => ?_) (fun c_7 => ?_)
  · exact absurd c_7 (by omega)
  · refine lv_iload_n hx hb dX4_page_10 rfl (lv_at hl 2 rfl) ?_
    refine lv_iconst (v := iI (1)) hx hb dX4_page_11 rfl ?_
    refine lv_bipush (v := iI (16)) hx hb dX4_page_12 (by decide) ?_
    refine k_roS (rest := []) [.int (iI (((c : Nat) : Int))), .int (iI (1)), .int (iI (16))] ⟨hx, hb, hml, hown, hts⟩ (c_X4_isWithin lM G ((c : Nat) : Int) 1 16 (by omega) (by omega) (by omega)) (va_cwS 3 hts gX4_page_X4_isWithin rfl rfl rfl (by decide +kernel) ⟨Nat.le_of_ble_eq_true rfl, Nat.le_of_ble_eq_true rfl⟩) hG (fun k q h => by simp at h) rfl rfl hl.1 (Nat.le_of_ble_eq_true rfl) ⟨Nat.zero_le _, Nat.zero_le _⟩ dX4_page_14 ?_
    refine k_ifnD (P := 1 ≤ ((c : Nat) : Int) ∧ ((c : Nat) : Int) ≤ 16) (tgt := 22) hx hb dX4_page_17 (by decide) (fun c_17 => ?_) (fun c_17 => ?_)
    · refine lv_aload_n hx hb dX4_page_22 rfl (lv_at hl 0 rfl) ?_
      refine va_get (D := G.1) (ci := 4) (v := .ref t) (C := RX4) (T := TX4) (N := 3) hx hb hts inX4_X4_page hown hG.1 (rk hV0 hVA hS) 0 rfl rfl 0 (by decide) (hts (.fieldLink RX4 10 "InkOverInk" "now" "LInkOverInk$Sheet;") (by decide +kernel)) (fun _ h9 => h9) rfl dX4_page_23 ?_
      refine lv_iload_n hx hb dX4_page_26 rfl (lv_at hl 1 rfl) ?_
      refine va_put (D := G.1) (ci := 3) (v := .int (iI (((r : Nat) : Int)))) (ty := .int) (C := RX3) (T := TX3) (N := 11) hx hb hts inX3_X4_page tyX3 tyX3_ok nmX3 hown hG.1 hP hD hS 0 rfl rfl 0 (by decide) (hts (.fieldLink RX4 31 "InkOverInk$Sheet" "rows" "I") (by decide +kernel)) (fun _ h9 => h9) rfl (by decide +kernel) rfl rfl (Nat.le_of_ble_eq_true rfl) dX4_page_27 (fun H locs hP hD hS => ?_)
      have hP : va_P G.1 vwCl [(t, .inr (3, [.int (iI (((r : Nat) : Int))), .int (iI (((cm : Nat) : Int))), .int (iI (((tr : Nat) : Int))), .int (iI (cr)), .int (iI (((ly : Nat) : Int))), .int (iI (((md : Nat) : Int))), .ref aw, .ref ad, .ref ac, .ref ao, .ref ax])), (p, .inr (1, [.ref sa, .ref qo, .ref qi, .ref qs, .ref qp, .ref qh, .int (iI (((dn : Nat) : Int)))]))] H := hP
      have hD : va_D A [(t, .inr (3, [.int (iI (((r : Nat) : Int))), .int (iI (((cm : Nat) : Int))), .int (iI (((tr : Nat) : Int))), .int (iI (cr)), .int (iI (((ly : Nat) : Int))), .int (iI (((md : Nat) : Int))), .ref aw, .ref ad, .ref ac, .ref ao, .ref ax])), (p, .inr (1, [.ref sa, .ref qo, .ref qi, .ref qs, .ref qp, .ref qh, .int (iI (((dn : Nat) : Int)))]))] := hD
      refine lv_aload_n hx hb dX4_page_30 rfl (lv_at hl 0 rfl) ?_
      refine va_get (D := G.1) (ci := 4) (v := .ref t) (C := RX4) (T := TX4) (N := 3) hx hb hts inX4_X4_page hown hG.1 (rk hV0 hVA hS) 0 rfl rfl 0 (by decide) (hts (.fieldLink RX4 10 "InkOverInk" "now" "LInkOverInk$Sheet;") (by decide +kernel)) (fun _ h9 => h9) rfl dX4_page_31 ?_
      refine lv_iload_n hx hb dX4_page_34 rfl (lv_at hl 2 rfl) ?_
      refine va_put (D := G.1) (ci := 3) (v := .int (iI (((c : Nat) : Int)))) (ty := .int) (C := RX3) (T := TX3) (N := 11) hx hb hts inX3_X4_page tyX3 tyX3_ok nmX3 hown hG.1 hP hD hS 0 rfl rfl 1 (by decide) (hts (.fieldLink RX4 35 "InkOverInk$Sheet" "columns" "I") (by decide +kernel)) (fun _ h9 => h9) rfl (by decide +kernel) rfl rfl (Nat.le_of_ble_eq_true rfl) dX4_page_35 (fun H locs hP hD hS => ?_)
      have hP : va_P G.1 vwCl [(t, .inr (3, [.int (iI (((r : Nat) : Int))), .int (iI (((c : Nat) : Int))), .int (iI (((tr : Nat) : Int))), .int (iI (cr)), .int (iI (((ly : Nat) : Int))), .int (iI (((md : Nat) : Int))), .ref aw, .ref ad, .ref ac, .ref ao, .ref ax])), (p, .inr (1, [.ref sa, .ref qo, .ref qi, .ref qs, .ref qp, .ref qh, .int (iI (((dn : Nat) : Int)))]))] H := hP
      have hD : va_D A [(t, .inr (3, [.int (iI (((r : Nat) : Int))), .int (iI (((c : Nat) : Int))), .int (iI (((tr : Nat) : Int))), .int (iI (cr)), .int (iI (((ly : Nat) : Int))), .int (iI (((md : Nat) : Int))), .ref aw, .ref ad, .ref ac, .ref ao, .ref ax])), (p, .inr (1, [.ref sa, .ref qo, .ref qi, .ref qs, .ref qp, .ref qh, .int (iI (((dn : Nat) : Int)))]))] := hD
      refine lv_aload_n hx hb dX4_page_38 rfl (lv_at hl 0 rfl) ?_
      refine va_get (D := G.1) (ci := 4) (v := .ref p) (C := RX4) (T := TX4) (N := 3) hx hb hts inX4_X4_page hown hG.1 (rk hV0 hVA hS) 0 rfl rfl 1 (by decide) (hts (.fieldLink RX4 19 "InkOverInk" "press" "LInkOverInk$Press;") (by decide +kernel)) (fun _ h9 => h9) rfl dX4_page_39 ?_
      refine lv_iconst (v := iI (0)) hx hb dX4_page_42 rfl ?_
      refine k_rwV (rest := []) (wr := [(t, .inr (3, [.int (iI (((r : Nat) : Int))), .int (iI (((c : Nat) : Int))), .int (iI (((tr : Nat) : Int))), .int (iI (cr)), .int (iI (((ly : Nat) : Int))), .int (iI (((md : Nat) : Int))), .ref aw, .ref ad, .ref ac, .ref ao, .ref ax]))]) (w := [(p, .inr (1, [.ref sa, .ref qo, .ref qi, .ref qs, .ref qp, .ref qh, .int (iI (((dn : Nat) : Int)))]))]) (v := []) [.int (iI (0))] ⟨hx, hb, hml, hown, hts⟩ (c_X1_keepOnly lM G H.size p sa qo qi qs qp qh dn 0 (by omega) (by omega)) (cwV 1 hts gX4_page_X1_keepOnly rfl rfl rfl (by decide +kernel) ⟨Nat.le_of_ble_eq_true rfl, Nat.le_of_ble_eq_true rfl⟩) hG (va_recv hG.1 hP (ci := 1) (q0 := 1) rfl rfl) hP hD hS hA [1] [0] rfl rfl (by decide) (fun k q h => by simp at h) ap_nil rfl rfl hl.1 (Nat.le_of_ble_eq_true rfl) ⟨Nat.le_of_ble_eq_true rfl, Nat.le_of_ble_eq_true rfl⟩ dX4_page_43 (fun o9 w9 H locs h9 hP hD hS => ?_)
      obtain ⟨rfl, rfl⟩ := h9
      have hP := hP.sub (ws' := [(t, .inr (3, [.int (iI (((r : Nat) : Int))), .int (iI (((c : Nat) : Int))), .int (iI (((tr : Nat) : Int))), .int (iI (cr)), .int (iI (((ly : Nat) : Int))), .int (iI (((md : Nat) : Int))), .ref aw, .ref ad, .ref ac, .ref ao, .ref ax])), (p, .inr (1, [.ref sa, .ref qo, .ref qi, .ref qs, .ref qp, .ref qh, .int (iI (((min dn 0 : Nat) : Int)))]))]) [0, 1] rfl
      have hD := hD.sub (ws' := [(t, .inr (3, [.int (iI (((r : Nat) : Int))), .int (iI (((c : Nat) : Int))), .int (iI (((tr : Nat) : Int))), .int (iI (cr)), .int (iI (((ly : Nat) : Int))), .int (iI (((md : Nat) : Int))), .ref aw, .ref ad, .ref ac, .ref ao, .ref ax])), (p, .inr (1, [.ref sa, .ref qo, .ref qi, .ref qs, .ref qp, .ref qh, .int (iI (((min dn 0 : Nat) : Int)))]))]) [0, 1] (by decide) rfl
      refine lv_iconst (v := iI (1)) hx hb dX4_page_46 rfl ?_
      exact rw_zret (a := 1) (b := true) hx hb hr hlocks hP hD hS dX4_page_47 rfl (⟨rfl, rfl⟩)
    · exact absurd c_17 (by omega)

set_option maxHeartbeats 4000000 in
set_option maxRecDepth 100000 in
theorem c_X4_page_N (lM : Launch) (G : GG) (x : Nat) (r c : Int) (h1 : ¬ ((1 ≤ r ∧ r ≤ 16) ∧ (1 ≤ c ∧ c ≤ 16))) (h2 : -2147483648 ≤ r ∧ r < 2147483648) (h3 : -2147483648 ≤ c ∧ c < 2147483648) : Met lM yX4_page wsX4_page rmX4_page (ro G [.ref x, .int (iI (r)), .int (iI (c))] []) (roQ (.int (iI (b2i false)))) 0 0 (fun _ => False) := by
  refine ro_of (cc := cX4_page) (maxL := 3) (ret := (some .boolean)) (by decide) rfl (Nat.le_of_ble_eq_true rfl) ?_
  intro pM eM sM mM bM tM cM hx hb hr hts hown hlocks hml hG hP ls hl
  have hown : sM.vm.findClass RX4 = some mM.cls := hown
  have hl : lv_has ls 3 [(0, .ref x), (1, .int (iI (r))), (2, .int (iI (c)))] := hl
  refine lv_iload_n hx hb dX4_page_0 rfl (lv_at hl 1 rfl) ?_
  refine lv_iconst (v := iI (1)) hx hb dX4_page_1 rfl ?_
  refine lv_bipush (v := iI (16)) hx hb dX4_page_2 (by decide) ?_
  refine k_roS (rest := []) [.int (iI (r)), .int (iI (1)), .int (iI (16))] ⟨hx, hb, hml, hown, hts⟩ (c_X4_isWithin lM G r 1 16 (by omega) (by omega) (by omega)) (va_cwS 3 hts gX4_page_X4_isWithin rfl rfl rfl (by decide +kernel) ⟨Nat.le_of_ble_eq_true rfl, Nat.le_of_ble_eq_true rfl⟩) hG (fun k q h => by simp at h) rfl rfl hl.1 (Nat.le_of_ble_eq_true rfl) ⟨Nat.zero_le _, Nat.zero_le _⟩ dX4_page_4 ?_
  refine k_ifD (P := 1 ≤ r ∧ r ≤ 16) (tgt := 20) hx hb dX4_page_7 (by decide) (fun c_7 => ?_) (fun c_7 => ?_)
  · refine lv_iconst (v := iI (0)) hx hb dX4_page_20 rfl ?_
    exact ro_zret (a := 0) hx hb hr hlocks dX4_page_21 (rfl)
  · refine lv_iload_n hx hb dX4_page_10 rfl (lv_at hl 2 rfl) ?_
    refine lv_iconst (v := iI (1)) hx hb dX4_page_11 rfl ?_
    refine lv_bipush (v := iI (16)) hx hb dX4_page_12 (by decide) ?_
    refine k_roS (rest := []) [.int (iI (c)), .int (iI (1)), .int (iI (16))] ⟨hx, hb, hml, hown, hts⟩ (c_X4_isWithin lM G c 1 16 (by omega) (by omega) (by omega)) (va_cwS 3 hts gX4_page_X4_isWithin rfl rfl rfl (by decide +kernel) ⟨Nat.le_of_ble_eq_true rfl, Nat.le_of_ble_eq_true rfl⟩) hG (fun k q h => by simp at h) rfl rfl hl.1 (Nat.le_of_ble_eq_true rfl) ⟨Nat.zero_le _, Nat.zero_le _⟩ dX4_page_14 ?_
    refine k_ifnD (P := 1 ≤ c ∧ c ≤ 16) (tgt := 22) hx hb dX4_page_17 (by decide) (fun c_17 => ?_) (fun c_17 => ?_)
    · exact absurd c_17 (by omega)
    · refine lv_iconst (v := iI (0)) hx hb dX4_page_20 rfl ?_
      exact ro_zret (a := 0) hx hb hr hlocks dX4_page_21 (rfl)

def rmX4_weight : Room := { frames := 2, cells := 0, slots := 0, locals := 42 }
set_option maxRecDepth 20000 in
theorem inX3_X4_weight : ∀ w ∈ wsX30, w ∈ wsX4_weight := by decide +kernel
set_option maxRecDepth 20000 in
theorem inX4_X4_weight : ∀ w ∈ wsX40, w ∈ wsX4_weight := by decide +kernel
set_option maxHeartbeats 4000000 in
set_option maxRecDepth 100000 in
theorem c_X4_weight (lM : Launch) (G : GG) (sz : Nat) (x im : Nat) (t rw cm tr : Nat) (cr : Int) (ly md aw ad ac ao ax : Nat) (p sa qo qi qs qp qh dn : Nat) (WT : Nat → Nat) (i v : Nat) (h1 : i < 4) (h2 : v ≤ 20) (h3 : dn < 100) : Met lM yX4_weight wsX4_weight rmX4_weight (rwP G [.ref x, .int (iI (((i : Nat) : Int))), .int (iI (((v : Nat) : Int)))] [(aw, .inl (G.2 0, 4, .inl (fun iX => iI ((WT iX : Nat) : Int)))), (p, .inr (1, [.ref sa, .ref qo, .ref qi, .ref qs, .ref qp, .ref qh, .int (iI (((dn : Nat) : Int)))]))] [(x, .inr (4, [.ref t, .ref p, .ref im])), (t, .inr (3, [.int (iI (((rw : Nat) : Int))), .int (iI (((cm : Nat) : Int))), .int (iI (((tr : Nat) : Int))), .int (iI (cr)), .int (iI (((ly : Nat) : Int))), .int (iI (((md : Nat) : Int))), .ref aw, .ref ad, .ref ac, .ref ao, .ref ax]))] sz) (rwA G (va_A [(aw, .inl (G.2 0, 4, .inl (fun iX => iI ((WT iX : Nat) : Int)))), (p, .inr (1, [.ref sa, .ref qo, .ref qi, .ref qs, .ref qp, .ref qh, .int (iI (((dn : Nat) : Int)))]))] sz) (det (some (.int (iI (b2i true)))) [(aw, .inl (G.2 0, 4, .inl (fun iX => iI (((va_up WT i v) iX : Nat) : Int)))), (p, .inr (1, [.ref sa, .ref qo, .ref qi, .ref qs, .ref qp, .ref qh, .int (iI (((min dn 1 : Nat) : Int)))]))])) 0 0 (va_A [(aw, .inl (G.2 0, 4, .inl (fun iX => iI ((WT iX : Nat) : Int)))), (p, .inr (1, [.ref sa, .ref qo, .ref qi, .ref qs, .ref qp, .ref qh, .int (iI (((dn : Nat) : Int)))]))] sz) := by
  refine rw_of (cc := cX4_weight) (maxL := 3) (ret := (some .boolean)) (by decide) rfl (Nat.le_of_ble_eq_true rfl) ?_
  intro pM eM sM mM bM tM cM hx hb hr hts hown hlocks hml hin hG A hA hP hD hS hV0 hVA ls hl
  have hown : sM.vm.findClass RX4 = some mM.cls := hown
  have hl : lv_has ls 3 [(0, .ref x), (1, .int (iI (((i : Nat) : Int)))), (2, .int (iI (((v : Nat) : Int))))] := hl
  refine lv_iload_n hx hb dX4_weight_0 rfl (lv_at hl 1 rfl) ?_
  refine k_roS (rest := []) [.int (iI (((i : Nat) : Int)))] ⟨hx, hb, hml, hown, hts⟩ (c_X4_isInk lM G ((i : Nat) : Int) (by omega)) (va_cwS 1 hts gX4_weight_X4_isInk rfl rfl rfl (by decide +kernel) ⟨Nat.le_of_ble_eq_true rfl, Nat.le_of_ble_eq_true rfl⟩) hG (fun k q h => by simp at h) rfl rfl hl.1 (Nat.le_of_ble_eq_true rfl) ⟨Nat.zero_le _, Nat.zero_le _⟩ dX4_weight_1 ?_
  refine k_ifD (P := 0 ≤ ((i : Nat) : Int) ∧ ((i : Nat) : Int) ≤ 3) (tgt := 17) hx hb dX4_weight_4 (by decide) (fun c_4 => ?_) (fun c_4 => ?_)
  · exact absurd c_4 (by omega)
  · refine lv_iload_n hx hb dX4_weight_7 rfl (lv_at hl 2 rfl) ?_
    refine lv_iconst (v := iI (0)) hx hb dX4_weight_8 rfl ?_
    refine lv_bipush (v := iI (20)) hx hb dX4_weight_9 (by decide) ?_
    refine k_roS (rest := []) [.int (iI (((v : Nat) : Int))), .int (iI (0)), .int (iI (20))] ⟨hx, hb, hml, hown, hts⟩ (c_X4_isWithin lM G ((v : Nat) : Int) 0 20 (by omega) (by omega) (by omega)) (va_cwS 3 hts gX4_weight_X4_isWithin rfl rfl rfl (by decide +kernel) ⟨Nat.le_of_ble_eq_true rfl, Nat.le_of_ble_eq_true rfl⟩) hG (fun k q h => by simp at h) rfl rfl hl.1 (Nat.le_of_ble_eq_true rfl) ⟨Nat.zero_le _, Nat.zero_le _⟩ dX4_weight_11 ?_
    refine k_ifnD (P := 0 ≤ ((v : Nat) : Int) ∧ ((v : Nat) : Int) ≤ 20) (tgt := 19) hx hb dX4_weight_14 (by decide) (fun c_14 => ?_) (fun c_14 => ?_)
    · refine lv_aload_n hx hb dX4_weight_19 rfl (lv_at hl 0 rfl) ?_
      refine va_get (D := G.1) (ci := 4) (v := .ref t) (C := RX4) (T := TX4) (N := 3) hx hb hts inX4_X4_weight hown hG.1 (rk hV0 hVA hS) 0 rfl rfl 0 (by decide) (hts (.fieldLink RX4 10 "InkOverInk" "now" "LInkOverInk$Sheet;") (by decide +kernel)) (fun _ h9 => h9) rfl dX4_weight_20 ?_
      refine va_get (D := G.1) (ci := 3) (v := .ref aw) (C := RX3) (T := TX3) (N := 11) hx hb hts inX3_X4_weight hown hG.1 (rk hV0 hVA hS) 1 rfl rfl 6 (by decide) (hts (.fieldLink RX4 46 "InkOverInk$Sheet" "weights" "[I") (by decide +kernel)) (fun _ h9 => h9) rfl dX4_weight_23 ?_
      refine lv_iload_n hx hb dX4_weight_26 rfl (lv_at hl 1 rfl) ?_
      refine lv_iload_n hx hb dX4_weight_27 rfl (lv_at hl 2 rfl) ?_
      refine k_iastNN (F := WT) (z := i) (v := v) hx hb hG hP hD hS 0 [(aw, .inl (G.2 0, 4, .inl (fun iX => iI (((va_up WT i v) iX : Nat) : Int)))), (p, .inr (1, [.ref sa, .ref qo, .ref qi, .ref qs, .ref qp, .ref qh, .int (iI (((dn : Nat) : Int)))]))] rfl (by omega) (by decide) rfl dX4_weight_28 (fun H locs hP hD hS => ?_)
      refine lv_aload_n hx hb dX4_weight_29 rfl (lv_at hl 0 rfl) ?_
      refine va_get (D := G.1) (ci := 4) (v := .ref p) (C := RX4) (T := TX4) (N := 3) hx hb hts inX4_X4_weight hown hG.1 (rk hV0 hVA hS) 0 rfl rfl 1 (by decide) (hts (.fieldLink RX4 19 "InkOverInk" "press" "LInkOverInk$Press;") (by decide +kernel)) (fun _ h9 => h9) rfl dX4_weight_30 ?_
      refine lv_iconst (v := iI (1)) hx hb dX4_weight_33 rfl ?_
      refine k_rwV (rest := []) (wr := [(aw, .inl (G.2 0, 4, .inl (fun iX => iI (((va_up WT i v) iX : Nat) : Int))))]) (w := [(p, .inr (1, [.ref sa, .ref qo, .ref qi, .ref qs, .ref qp, .ref qh, .int (iI (((dn : Nat) : Int)))]))]) (v := []) [.int (iI (1))] ⟨hx, hb, hml, hown, hts⟩ (c_X1_keepOnly lM G H.size p sa qo qi qs qp qh dn 1 (by omega) (by omega)) (cwV 1 hts gX4_weight_X1_keepOnly rfl rfl rfl (by decide +kernel) ⟨Nat.le_of_ble_eq_true rfl, Nat.le_of_ble_eq_true rfl⟩) hG (va_recv hG.1 hP (ci := 1) (q0 := 1) rfl rfl) hP hD hS hA [1] [0] rfl rfl (by decide) (fun k q h => by simp at h) ap_nil rfl rfl hl.1 (Nat.le_of_ble_eq_true rfl) ⟨Nat.le_of_ble_eq_true rfl, Nat.le_of_ble_eq_true rfl⟩ dX4_weight_34 (fun o9 w9 H locs h9 hP hD hS => ?_)
      obtain ⟨rfl, rfl⟩ := h9
      have hP := hP.sub (ws' := [(aw, .inl (G.2 0, 4, .inl (fun iX => iI (((va_up WT i v) iX : Nat) : Int)))), (p, .inr (1, [.ref sa, .ref qo, .ref qi, .ref qs, .ref qp, .ref qh, .int (iI (((min dn 1 : Nat) : Int)))]))]) [0, 1] rfl
      have hD := hD.sub (ws' := [(aw, .inl (G.2 0, 4, .inl (fun iX => iI (((va_up WT i v) iX : Nat) : Int)))), (p, .inr (1, [.ref sa, .ref qo, .ref qi, .ref qs, .ref qp, .ref qh, .int (iI (((min dn 1 : Nat) : Int)))]))]) [0, 1] (by decide) rfl
      refine lv_iconst (v := iI (1)) hx hb dX4_weight_37 rfl ?_
      exact rw_zret (a := 1) (b := true) hx hb hr hlocks hP hD hS dX4_weight_38 rfl (⟨rfl, rfl⟩)
    · exact absurd c_14 (by omega)

set_option maxHeartbeats 4000000 in
set_option maxRecDepth 100000 in
theorem c_X4_weight_N (lM : Launch) (G : GG) (x : Nat) (i v : Int) (h1 : ¬ ((0 ≤ i ∧ i ≤ 3) ∧ (0 ≤ v ∧ v ≤ 20))) (h2 : -2147483648 ≤ i ∧ i < 2147483648) (h3 : -2147483648 ≤ v ∧ v < 2147483648) : Met lM yX4_weight wsX4_weight rmX4_weight (ro G [.ref x, .int (iI (i)), .int (iI (v))] []) (roQ (.int (iI (b2i false)))) 0 0 (fun _ => False) := by
  refine ro_of (cc := cX4_weight) (maxL := 3) (ret := (some .boolean)) (by decide) rfl (Nat.le_of_ble_eq_true rfl) ?_
  intro pM eM sM mM bM tM cM hx hb hr hts hown hlocks hml hG hP ls hl
  have hown : sM.vm.findClass RX4 = some mM.cls := hown
  have hl : lv_has ls 3 [(0, .ref x), (1, .int (iI (i))), (2, .int (iI (v)))] := hl
  refine lv_iload_n hx hb dX4_weight_0 rfl (lv_at hl 1 rfl) ?_
  refine k_roS (rest := []) [.int (iI (i))] ⟨hx, hb, hml, hown, hts⟩ (c_X4_isInk lM G i (by omega)) (va_cwS 1 hts gX4_weight_X4_isInk rfl rfl rfl (by decide +kernel) ⟨Nat.le_of_ble_eq_true rfl, Nat.le_of_ble_eq_true rfl⟩) hG (fun k q h => by simp at h) rfl rfl hl.1 (Nat.le_of_ble_eq_true rfl) ⟨Nat.zero_le _, Nat.zero_le _⟩ dX4_weight_1 ?_
  refine k_ifD (P := 0 ≤ i ∧ i ≤ 3) (tgt := 17) hx hb dX4_weight_4 (by decide) (fun c_4 => ?_) (fun c_4 => ?_)
  · refine lv_iconst (v := iI (0)) hx hb dX4_weight_17 rfl ?_
    exact ro_zret (a := 0) hx hb hr hlocks dX4_weight_18 (rfl)
  · refine lv_iload_n hx hb dX4_weight_7 rfl (lv_at hl 2 rfl) ?_
    refine lv_iconst (v := iI (0)) hx hb dX4_weight_8 rfl ?_
    refine lv_bipush (v := iI (20)) hx hb dX4_weight_9 (by decide) ?_
    refine k_roS (rest := []) [.int (iI (v)), .int (iI (0)), .int (iI (20))] ⟨hx, hb, hml, hown, hts⟩ (c_X4_isWithin lM G v 0 20 (by omega) (by omega) (by omega)) (va_cwS 3 hts gX4_weight_X4_isWithin rfl rfl rfl (by decide +kernel) ⟨Nat.le_of_ble_eq_true rfl, Nat.le_of_ble_eq_true rfl⟩) hG (fun k q h => by simp at h) rfl rfl hl.1 (Nat.le_of_ble_eq_true rfl) ⟨Nat.zero_le _, Nat.zero_le _⟩ dX4_weight_11 ?_
    refine k_ifnD (P := 0 ≤ v ∧ v ≤ 20) (tgt := 19) hx hb dX4_weight_14 (by decide) (fun c_14 => ?_) (fun c_14 => ?_)
    · exact absurd c_14 (by omega)
    · refine lv_iconst (v := iI (0)) hx hb dX4_weight_17 rfl ?_
      exact ro_zret (a := 0) hx hb hr hlocks dX4_weight_18 (rfl)

def rmX4_off : Room := { frames := 2, cells := 0, slots := 0, locals := 43 }
set_option maxRecDepth 20000 in
theorem inX3_X4_off : ∀ w ∈ wsX30, w ∈ wsX4_off := by decide +kernel
set_option maxRecDepth 20000 in
theorem inX4_X4_off : ∀ w ∈ wsX40, w ∈ wsX4_off := by decide +kernel
set_option maxHeartbeats 4000000 in
set_option maxRecDepth 100000 in
theorem c_X4_off (lM : Launch) (G : GG) (sz : Nat) (x im : Nat) (t rw cm tr : Nat) (cr : Int) (ly md aw ad ac ao ax : Nat) (p sa qo qi qs qp qh dn : Nat) (AC DN : Nat → Int) (i : Nat) (r c : Int) (h1 : i < 4) (h2 : (-6 ≤ r ∧ r ≤ 6) ∧ (-6 ≤ c ∧ c ≤ 6)) (h3 : dn < 100) : Met lM yX4_off wsX4_off rmX4_off (rwP G [.ref x, .int (iI (((i : Nat) : Int))), .int (iI (r)), .int (iI (c))] [(ad, .inl (G.2 0, 4, .inl (fun iX => iI (DN iX)))), (ac, .inl (G.2 0, 4, .inl (fun iX => iI (AC iX)))), (p, .inr (1, [.ref sa, .ref qo, .ref qi, .ref qs, .ref qp, .ref qh, .int (iI (((dn : Nat) : Int)))]))] [(x, .inr (4, [.ref t, .ref p, .ref im])), (t, .inr (3, [.int (iI (((rw : Nat) : Int))), .int (iI (((cm : Nat) : Int))), .int (iI (((tr : Nat) : Int))), .int (iI (cr)), .int (iI (((ly : Nat) : Int))), .int (iI (((md : Nat) : Int))), .ref aw, .ref ad, .ref ac, .ref ao, .ref ax]))] sz) (rwA G (va_A [(ad, .inl (G.2 0, 4, .inl (fun iX => iI (DN iX)))), (ac, .inl (G.2 0, 4, .inl (fun iX => iI (AC iX)))), (p, .inr (1, [.ref sa, .ref qo, .ref qi, .ref qs, .ref qp, .ref qh, .int (iI (((dn : Nat) : Int)))]))] sz) (det (some (.int (iI (b2i true)))) [(ad, .inl (G.2 0, 4, .inl (fun iX => iI ((va_up DN i r) iX)))), (ac, .inl (G.2 0, 4, .inl (fun iX => iI ((va_up AC i c) iX)))), (p, .inr (1, [.ref sa, .ref qo, .ref qi, .ref qs, .ref qp, .ref qh, .int (iI (((min dn 2 : Nat) : Int)))]))])) 0 0 (va_A [(ad, .inl (G.2 0, 4, .inl (fun iX => iI (DN iX)))), (ac, .inl (G.2 0, 4, .inl (fun iX => iI (AC iX)))), (p, .inr (1, [.ref sa, .ref qo, .ref qi, .ref qs, .ref qp, .ref qh, .int (iI (((dn : Nat) : Int)))]))] sz) := by
  refine rw_of (cc := cX4_off) (maxL := 4) (ret := (some .boolean)) (by decide) rfl (Nat.le_of_ble_eq_true rfl) ?_
  intro pM eM sM mM bM tM cM hx hb hr hts hown hlocks hml hin hG A hA hP hD hS hV0 hVA ls hl
  have hown : sM.vm.findClass RX4 = some mM.cls := hown
  have hl : lv_has ls 4 [(0, .ref x), (1, .int (iI (((i : Nat) : Int)))), (2, .int (iI (r))), (3, .int (iI (c)))] := hl
  refine lv_iload_n hx hb dX4_off_0 rfl (lv_at hl 1 rfl) ?_
  refine k_roS (rest := []) [.int (iI (((i : Nat) : Int)))] ⟨hx, hb, hml, hown, hts⟩ (c_X4_isInk lM G ((i : Nat) : Int) (by omega)) (va_cwS 1 hts gX4_off_X4_isInk rfl rfl rfl (by decide +kernel) ⟨Nat.le_of_ble_eq_true rfl, Nat.le_of_ble_eq_true rfl⟩) hG (fun k q h => by simp at h) rfl rfl hl.1 (Nat.le_of_ble_eq_true rfl) ⟨Nat.zero_le _, Nat.zero_le _⟩ dX4_off_1 ?_
  refine k_ifD (P := 0 ≤ ((i : Nat) : Int) ∧ ((i : Nat) : Int) ≤ 3) (tgt := 15) hx hb dX4_off_4 (by decide) (fun c_4 => ?_) (fun c_4 => ?_)
  · exact absurd c_4 (by omega)
  · refine lv_iload_n hx hb dX4_off_7 rfl (lv_at hl 2 rfl) ?_
    refine lv_iload_n hx hb dX4_off_8 rfl (lv_at hl 3 rfl) ?_
    refine k_roS (rest := []) [.int (iI (r)), .int (iI (c))] ⟨hx, hb, hml, hown, hts⟩ (c_X4_isOff lM G r c (by omega) (by omega)) (va_cwS 2 hts gX4_off_X4_isOff rfl rfl rfl (by decide +kernel) ⟨Nat.le_of_ble_eq_true rfl, Nat.le_of_ble_eq_true rfl⟩) hG (fun k q h => by simp at h) rfl rfl hl.1 (Nat.le_of_ble_eq_true rfl) ⟨Nat.zero_le _, Nat.zero_le _⟩ dX4_off_9 ?_
    refine k_ifnD (P := (-6 ≤ r ∧ r ≤ 6) ∧ (-6 ≤ c ∧ c ≤ 6)) (tgt := 17) hx hb dX4_off_12 (by decide) (fun c_12 => ?_) (fun c_12 => ?_)
    · refine lv_aload_n hx hb dX4_off_17 rfl (lv_at hl 0 rfl) ?_
      refine va_get (D := G.1) (ci := 4) (v := .ref t) (C := RX4) (T := TX4) (N := 3) hx hb hts inX4_X4_off hown hG.1 (rk hV0 hVA hS) 0 rfl rfl 0 (by decide) (hts (.fieldLink RX4 10 "InkOverInk" "now" "LInkOverInk$Sheet;") (by decide +kernel)) (fun _ h9 => h9) rfl dX4_off_18 ?_
      refine va_get (D := G.1) (ci := 3) (v := .ref ad) (C := RX3) (T := TX3) (N := 11) hx hb hts inX3_X4_off hown hG.1 (rk hV0 hVA hS) 1 rfl rfl 7 (by decide) (hts (.fieldLink RX4 172 "InkOverInk$Sheet" "down" "[I") (by decide +kernel)) (fun _ h9 => h9) rfl dX4_off_21 ?_
      refine lv_iload_n hx hb dX4_off_24 rfl (lv_at hl 1 rfl) ?_
      refine lv_iload_n hx hb dX4_off_25 rfl (lv_at hl 2 rfl) ?_
      refine k_iastN (F := DN) (z := i) (v := r) hx hb hG hP hD hS 0 [(ad, .inl (G.2 0, 4, .inl (fun iX => iI ((va_up DN i r) iX)))), (ac, .inl (G.2 0, 4, .inl (fun iX => iI (AC iX)))), (p, .inr (1, [.ref sa, .ref qo, .ref qi, .ref qs, .ref qp, .ref qh, .int (iI (((dn : Nat) : Int)))]))] rfl (by omega) (by decide) rfl dX4_off_26 (fun H locs hP hD hS => ?_)
      refine lv_aload_n hx hb dX4_off_27 rfl (lv_at hl 0 rfl) ?_
      refine va_get (D := G.1) (ci := 4) (v := .ref t) (C := RX4) (T := TX4) (N := 3) hx hb hts inX4_X4_off hown hG.1 (rk hV0 hVA hS) 0 rfl rfl 0 (by decide) (hts (.fieldLink RX4 10 "InkOverInk" "now" "LInkOverInk$Sheet;") (by decide +kernel)) (fun _ h9 => h9) rfl dX4_off_28 ?_
      refine va_get (D := G.1) (ci := 3) (v := .ref ac) (C := RX3) (T := TX3) (N := 11) hx hb hts inX3_X4_off hown hG.1 (rk hV0 hVA hS) 1 rfl rfl 8 (by decide) (hts (.fieldLink RX4 175 "InkOverInk$Sheet" "across" "[I") (by decide +kernel)) (fun _ h9 => h9) rfl dX4_off_31 ?_
      refine lv_iload_n hx hb dX4_off_34 rfl (lv_at hl 1 rfl) ?_
      refine lv_iload_n hx hb dX4_off_35 rfl (lv_at hl 3 rfl) ?_
      refine k_iastN (F := AC) (z := i) (v := c) hx hb hG hP hD hS 1 [(ad, .inl (G.2 0, 4, .inl (fun iX => iI ((va_up DN i r) iX)))), (ac, .inl (G.2 0, 4, .inl (fun iX => iI ((va_up AC i c) iX)))), (p, .inr (1, [.ref sa, .ref qo, .ref qi, .ref qs, .ref qp, .ref qh, .int (iI (((dn : Nat) : Int)))]))] rfl (by omega) (by decide) rfl dX4_off_36 (fun H locs hP hD hS => ?_)
      refine lv_aload_n hx hb dX4_off_37 rfl (lv_at hl 0 rfl) ?_
      refine va_get (D := G.1) (ci := 4) (v := .ref p) (C := RX4) (T := TX4) (N := 3) hx hb hts inX4_X4_off hown hG.1 (rk hV0 hVA hS) 0 rfl rfl 1 (by decide) (hts (.fieldLink RX4 19 "InkOverInk" "press" "LInkOverInk$Press;") (by decide +kernel)) (fun _ h9 => h9) rfl dX4_off_38 ?_
      refine lv_iconst (v := iI (2)) hx hb dX4_off_41 rfl ?_
      refine k_rwV (rest := []) (wr := [(ad, .inl (G.2 0, 4, .inl (fun iX => iI ((va_up DN i r) iX)))), (ac, .inl (G.2 0, 4, .inl (fun iX => iI ((va_up AC i c) iX))))]) (w := [(p, .inr (1, [.ref sa, .ref qo, .ref qi, .ref qs, .ref qp, .ref qh, .int (iI (((dn : Nat) : Int)))]))]) (v := []) [.int (iI (2))] ⟨hx, hb, hml, hown, hts⟩ (c_X1_keepOnly lM G H.size p sa qo qi qs qp qh dn 2 (by omega) (by omega)) (cwV 1 hts gX4_off_X1_keepOnly rfl rfl rfl (by decide +kernel) ⟨Nat.le_of_ble_eq_true rfl, Nat.le_of_ble_eq_true rfl⟩) hG (va_recv hG.1 hP (ci := 1) (q0 := 2) rfl rfl) hP hD hS hA [2] [0, 1] rfl rfl (by decide) (fun k q h => by simp at h) ap_nil rfl rfl hl.1 (Nat.le_of_ble_eq_true rfl) ⟨Nat.le_of_ble_eq_true rfl, Nat.le_of_ble_eq_true rfl⟩ dX4_off_42 (fun o9 w9 H locs h9 hP hD hS => ?_)
      obtain ⟨rfl, rfl⟩ := h9
      have hP := hP.sub (ws' := [(ad, .inl (G.2 0, 4, .inl (fun iX => iI ((va_up DN i r) iX)))), (ac, .inl (G.2 0, 4, .inl (fun iX => iI ((va_up AC i c) iX)))), (p, .inr (1, [.ref sa, .ref qo, .ref qi, .ref qs, .ref qp, .ref qh, .int (iI (((min dn 2 : Nat) : Int)))]))]) [0, 1, 2] rfl
      have hD := hD.sub (ws' := [(ad, .inl (G.2 0, 4, .inl (fun iX => iI ((va_up DN i r) iX)))), (ac, .inl (G.2 0, 4, .inl (fun iX => iI ((va_up AC i c) iX)))), (p, .inr (1, [.ref sa, .ref qo, .ref qi, .ref qs, .ref qp, .ref qh, .int (iI (((min dn 2 : Nat) : Int)))]))]) [0, 1, 2] (by decide) rfl
      refine lv_iconst (v := iI (1)) hx hb dX4_off_45 rfl ?_
      exact rw_zret (a := 1) (b := true) hx hb hr hlocks hP hD hS dX4_off_46 rfl (⟨rfl, rfl⟩)
    · exact absurd c_12 (by omega)

set_option maxHeartbeats 4000000 in
set_option maxRecDepth 100000 in
theorem c_X4_off_N (lM : Launch) (G : GG) (x : Nat) (i r c : Int) (h1 : ¬ ((0 ≤ i ∧ i ≤ 3) ∧ ((-6 ≤ r ∧ r ≤ 6) ∧ (-6 ≤ c ∧ c ≤ 6)))) (h2 : -2147483648 ≤ i ∧ i < 2147483648) (h3 : -2147483648 ≤ r ∧ r < 2147483648) (h4 : -2147483648 ≤ c ∧ c < 2147483648) : Met lM yX4_off wsX4_off rmX4_off (ro G [.ref x, .int (iI (i)), .int (iI (r)), .int (iI (c))] []) (roQ (.int (iI (b2i false)))) 0 0 (fun _ => False) := by
  refine ro_of (cc := cX4_off) (maxL := 4) (ret := (some .boolean)) (by decide) rfl (Nat.le_of_ble_eq_true rfl) ?_
  intro pM eM sM mM bM tM cM hx hb hr hts hown hlocks hml hG hP ls hl
  have hown : sM.vm.findClass RX4 = some mM.cls := hown
  have hl : lv_has ls 4 [(0, .ref x), (1, .int (iI (i))), (2, .int (iI (r))), (3, .int (iI (c)))] := hl
  refine lv_iload_n hx hb dX4_off_0 rfl (lv_at hl 1 rfl) ?_
  refine k_roS (rest := []) [.int (iI (i))] ⟨hx, hb, hml, hown, hts⟩ (c_X4_isInk lM G i (by omega)) (va_cwS 1 hts gX4_off_X4_isInk rfl rfl rfl (by decide +kernel) ⟨Nat.le_of_ble_eq_true rfl, Nat.le_of_ble_eq_true rfl⟩) hG (fun k q h => by simp at h) rfl rfl hl.1 (Nat.le_of_ble_eq_true rfl) ⟨Nat.zero_le _, Nat.zero_le _⟩ dX4_off_1 ?_
  refine k_ifD (P := 0 ≤ i ∧ i ≤ 3) (tgt := 15) hx hb dX4_off_4 (by decide) (fun c_4 => ?_) (fun c_4 => ?_)
  · refine lv_iconst (v := iI (0)) hx hb dX4_off_15 rfl ?_
    exact ro_zret (a := 0) hx hb hr hlocks dX4_off_16 (rfl)
  · refine lv_iload_n hx hb dX4_off_7 rfl (lv_at hl 2 rfl) ?_
    refine lv_iload_n hx hb dX4_off_8 rfl (lv_at hl 3 rfl) ?_
    refine k_roS (rest := []) [.int (iI (r)), .int (iI (c))] ⟨hx, hb, hml, hown, hts⟩ (c_X4_isOff lM G r c (by omega) (by omega)) (va_cwS 2 hts gX4_off_X4_isOff rfl rfl rfl (by decide +kernel) ⟨Nat.le_of_ble_eq_true rfl, Nat.le_of_ble_eq_true rfl⟩) hG (fun k q h => by simp at h) rfl rfl hl.1 (Nat.le_of_ble_eq_true rfl) ⟨Nat.zero_le _, Nat.zero_le _⟩ dX4_off_9 ?_
    refine k_ifnD (P := (-6 ≤ r ∧ r ≤ 6) ∧ (-6 ≤ c ∧ c ≤ 6)) (tgt := 17) hx hb dX4_off_12 (by decide) (fun c_12 => ?_) (fun c_12 => ?_)
    · exact absurd c_12 (by omega)
    · refine lv_iconst (v := iI (0)) hx hb dX4_off_15 rfl ?_
      exact ro_zret (a := 0) hx hb hr hlocks dX4_off_16 (rfl)

def rmX4_creep : Room := { frames := 2, cells := 0, slots := 0, locals := 37 }
set_option maxRecDepth 20000 in
theorem inX3_X4_creep : ∀ w ∈ wsX30, w ∈ wsX4_creep := by decide +kernel
set_option maxRecDepth 20000 in
theorem inX4_X4_creep : ∀ w ∈ wsX40, w ∈ wsX4_creep := by decide +kernel
set_option maxHeartbeats 4000000 in
set_option maxRecDepth 100000 in
theorem c_X4_creep (lM : Launch) (G : GG) (sz : Nat) (x im : Nat) (t rw cm tr : Nat) (cr : Int) (ly md aw ad ac ao ax : Nat) (p sa qo qi qs qp qh dn : Nat) (v : Int) (h1 : -8 ≤ v ∧ v ≤ 8) (h2 : dn < 100) : Met lM yX4_creep wsX4_creep rmX4_creep (rwP G [.ref x, .int (iI (v))] [(t, .inr (3, [.int (iI (((rw : Nat) : Int))), .int (iI (((cm : Nat) : Int))), .int (iI (((tr : Nat) : Int))), .int (iI (cr)), .int (iI (((ly : Nat) : Int))), .int (iI (((md : Nat) : Int))), .ref aw, .ref ad, .ref ac, .ref ao, .ref ax])), (p, .inr (1, [.ref sa, .ref qo, .ref qi, .ref qs, .ref qp, .ref qh, .int (iI (((dn : Nat) : Int)))]))] [(x, .inr (4, [.ref t, .ref p, .ref im]))] sz) (rwA G (va_A [(t, .inr (3, [.int (iI (((rw : Nat) : Int))), .int (iI (((cm : Nat) : Int))), .int (iI (((tr : Nat) : Int))), .int (iI (cr)), .int (iI (((ly : Nat) : Int))), .int (iI (((md : Nat) : Int))), .ref aw, .ref ad, .ref ac, .ref ao, .ref ax])), (p, .inr (1, [.ref sa, .ref qo, .ref qi, .ref qs, .ref qp, .ref qh, .int (iI (((dn : Nat) : Int)))]))] sz) (det (some (.int (iI (b2i true)))) [(t, .inr (3, [.int (iI (((rw : Nat) : Int))), .int (iI (((cm : Nat) : Int))), .int (iI (((tr : Nat) : Int))), .int (iI (v)), .int (iI (((ly : Nat) : Int))), .int (iI (((md : Nat) : Int))), .ref aw, .ref ad, .ref ac, .ref ao, .ref ax])), (p, .inr (1, [.ref sa, .ref qo, .ref qi, .ref qs, .ref qp, .ref qh, .int (iI (((min dn 2 : Nat) : Int)))]))])) 0 0 (va_A [(t, .inr (3, [.int (iI (((rw : Nat) : Int))), .int (iI (((cm : Nat) : Int))), .int (iI (((tr : Nat) : Int))), .int (iI (cr)), .int (iI (((ly : Nat) : Int))), .int (iI (((md : Nat) : Int))), .ref aw, .ref ad, .ref ac, .ref ao, .ref ax])), (p, .inr (1, [.ref sa, .ref qo, .ref qi, .ref qs, .ref qp, .ref qh, .int (iI (((dn : Nat) : Int)))]))] sz) := by
  refine rw_of (cc := cX4_creep) (maxL := 2) (ret := (some .boolean)) (by decide) rfl (Nat.le_of_ble_eq_true rfl) ?_
  intro pM eM sM mM bM tM cM hx hb hr hts hown hlocks hml hin hG A hA hP hD hS hV0 hVA ls hl
  have hown : sM.vm.findClass RX4 = some mM.cls := hown
  have hl : lv_has ls 2 [(0, .ref x), (1, .int (iI (v)))] := hl
  refine lv_iload_n hx hb dX4_creep_0 rfl (lv_at hl 1 rfl) ?_
  refine lv_bipush (v := iI (-8)) hx hb dX4_creep_1 (by decide) ?_
  refine lv_bipush (v := iI (8)) hx hb dX4_creep_3 (by decide) ?_
  refine k_roS (rest := []) [.int (iI (v)), .int (iI ((-8))), .int (iI (8))] ⟨hx, hb, hml, hown, hts⟩ (c_X4_isWithin lM G v (-8) 8 (by omega) (by omega) (by omega)) (va_cwS 3 hts gX4_creep_X4_isWithin rfl rfl rfl (by decide +kernel) ⟨Nat.le_of_ble_eq_true rfl, Nat.le_of_ble_eq_true rfl⟩) hG (fun k q h => by simp at h) rfl rfl hl.1 (Nat.le_of_ble_eq_true rfl) ⟨Nat.zero_le _, Nat.zero_le _⟩ dX4_creep_5 ?_
  refine k_ifnD (P := (-8) ≤ v ∧ v ≤ 8) (tgt := 13) hx hb dX4_creep_8 (by decide) (fun c_8 => ?_) (fun c_8 => ?_)
  · refine lv_aload_n hx hb dX4_creep_13 rfl (lv_at hl 0 rfl) ?_
    refine va_get (D := G.1) (ci := 4) (v := .ref t) (C := RX4) (T := TX4) (N := 3) hx hb hts inX4_X4_creep hown hG.1 (rk hV0 hVA hS) 0 rfl rfl 0 (by decide) (hts (.fieldLink RX4 10 "InkOverInk" "now" "LInkOverInk$Sheet;") (by decide +kernel)) (fun _ h9 => h9) rfl dX4_creep_14 ?_
    refine lv_iload_n hx hb dX4_creep_17 rfl (lv_at hl 1 rfl) ?_
    refine va_put (D := G.1) (ci := 3) (v := .int (iI (v))) (ty := .int) (C := RX3) (T := TX3) (N := 11) hx hb hts inX3_X4_creep tyX3 tyX3_ok nmX3 hown hG.1 hP hD hS 0 rfl rfl 3 (by decide) (hts (.fieldLink RX4 178 "InkOverInk$Sheet" "creeping" "I") (by decide +kernel)) (fun _ h9 => h9) rfl (by decide +kernel) rfl rfl (Nat.le_of_ble_eq_true rfl) dX4_creep_18 (fun H locs hP hD hS => ?_)
    have hP : va_P G.1 vwCl [(t, .inr (3, [.int (iI (((rw : Nat) : Int))), .int (iI (((cm : Nat) : Int))), .int (iI (((tr : Nat) : Int))), .int (iI (v)), .int (iI (((ly : Nat) : Int))), .int (iI (((md : Nat) : Int))), .ref aw, .ref ad, .ref ac, .ref ao, .ref ax])), (p, .inr (1, [.ref sa, .ref qo, .ref qi, .ref qs, .ref qp, .ref qh, .int (iI (((dn : Nat) : Int)))]))] H := hP
    have hD : va_D A [(t, .inr (3, [.int (iI (((rw : Nat) : Int))), .int (iI (((cm : Nat) : Int))), .int (iI (((tr : Nat) : Int))), .int (iI (v)), .int (iI (((ly : Nat) : Int))), .int (iI (((md : Nat) : Int))), .ref aw, .ref ad, .ref ac, .ref ao, .ref ax])), (p, .inr (1, [.ref sa, .ref qo, .ref qi, .ref qs, .ref qp, .ref qh, .int (iI (((dn : Nat) : Int)))]))] := hD
    refine lv_aload_n hx hb dX4_creep_21 rfl (lv_at hl 0 rfl) ?_
    refine va_get (D := G.1) (ci := 4) (v := .ref p) (C := RX4) (T := TX4) (N := 3) hx hb hts inX4_X4_creep hown hG.1 (rk hV0 hVA hS) 0 rfl rfl 1 (by decide) (hts (.fieldLink RX4 19 "InkOverInk" "press" "LInkOverInk$Press;") (by decide +kernel)) (fun _ h9 => h9) rfl dX4_creep_22 ?_
    refine lv_iconst (v := iI (2)) hx hb dX4_creep_25 rfl ?_
    refine k_rwV (rest := []) (wr := [(t, .inr (3, [.int (iI (((rw : Nat) : Int))), .int (iI (((cm : Nat) : Int))), .int (iI (((tr : Nat) : Int))), .int (iI (v)), .int (iI (((ly : Nat) : Int))), .int (iI (((md : Nat) : Int))), .ref aw, .ref ad, .ref ac, .ref ao, .ref ax]))]) (w := [(p, .inr (1, [.ref sa, .ref qo, .ref qi, .ref qs, .ref qp, .ref qh, .int (iI (((dn : Nat) : Int)))]))]) (v := []) [.int (iI (2))] ⟨hx, hb, hml, hown, hts⟩ (c_X1_keepOnly lM G H.size p sa qo qi qs qp qh dn 2 (by omega) (by omega)) (cwV 1 hts gX4_creep_X1_keepOnly rfl rfl rfl (by decide +kernel) ⟨Nat.le_of_ble_eq_true rfl, Nat.le_of_ble_eq_true rfl⟩) hG (va_recv hG.1 hP (ci := 1) (q0 := 1) rfl rfl) hP hD hS hA [1] [0] rfl rfl (by decide) (fun k q h => by simp at h) ap_nil rfl rfl hl.1 (Nat.le_of_ble_eq_true rfl) ⟨Nat.le_of_ble_eq_true rfl, Nat.le_of_ble_eq_true rfl⟩ dX4_creep_26 (fun o9 w9 H locs h9 hP hD hS => ?_)
    obtain ⟨rfl, rfl⟩ := h9
    have hP := hP.sub (ws' := [(t, .inr (3, [.int (iI (((rw : Nat) : Int))), .int (iI (((cm : Nat) : Int))), .int (iI (((tr : Nat) : Int))), .int (iI (v)), .int (iI (((ly : Nat) : Int))), .int (iI (((md : Nat) : Int))), .ref aw, .ref ad, .ref ac, .ref ao, .ref ax])), (p, .inr (1, [.ref sa, .ref qo, .ref qi, .ref qs, .ref qp, .ref qh, .int (iI (((min dn 2 : Nat) : Int)))]))]) [0, 1] rfl
    have hD := hD.sub (ws' := [(t, .inr (3, [.int (iI (((rw : Nat) : Int))), .int (iI (((cm : Nat) : Int))), .int (iI (((tr : Nat) : Int))), .int (iI (v)), .int (iI (((ly : Nat) : Int))), .int (iI (((md : Nat) : Int))), .ref aw, .ref ad, .ref ac, .ref ao, .ref ax])), (p, .inr (1, [.ref sa, .ref qo, .ref qi, .ref qs, .ref qp, .ref qh, .int (iI (((min dn 2 : Nat) : Int)))]))]) [0, 1] (by decide) rfl
    refine lv_iconst (v := iI (1)) hx hb dX4_creep_29 rfl ?_
    exact rw_zret (a := 1) (b := true) hx hb hr hlocks hP hD hS dX4_creep_30 rfl (⟨rfl, rfl⟩)
  · exact absurd c_8 (by omega)

set_option maxHeartbeats 4000000 in
set_option maxRecDepth 100000 in
theorem c_X4_creep_N (lM : Launch) (G : GG) (x : Nat) (v : Int) (h1 : ¬ (-8 ≤ v ∧ v ≤ 8)) (h2 : -2147483648 ≤ v ∧ v < 2147483648) : Met lM yX4_creep wsX4_creep rmX4_creep (ro G [.ref x, .int (iI (v))] []) (roQ (.int (iI (b2i false)))) 0 0 (fun _ => False) := by
  refine ro_of (cc := cX4_creep) (maxL := 2) (ret := (some .boolean)) (by decide) rfl (Nat.le_of_ble_eq_true rfl) ?_
  intro pM eM sM mM bM tM cM hx hb hr hts hown hlocks hml hG hP ls hl
  have hown : sM.vm.findClass RX4 = some mM.cls := hown
  have hl : lv_has ls 2 [(0, .ref x), (1, .int (iI (v)))] := hl
  refine lv_iload_n hx hb dX4_creep_0 rfl (lv_at hl 1 rfl) ?_
  refine lv_bipush (v := iI (-8)) hx hb dX4_creep_1 (by decide) ?_
  refine lv_bipush (v := iI (8)) hx hb dX4_creep_3 (by decide) ?_
  refine k_roS (rest := []) [.int (iI (v)), .int (iI ((-8))), .int (iI (8))] ⟨hx, hb, hml, hown, hts⟩ (c_X4_isWithin lM G v (-8) 8 (by omega) (by omega) (by omega)) (va_cwS 3 hts gX4_creep_X4_isWithin rfl rfl rfl (by decide +kernel) ⟨Nat.le_of_ble_eq_true rfl, Nat.le_of_ble_eq_true rfl⟩) hG (fun k q h => by simp at h) rfl rfl hl.1 (Nat.le_of_ble_eq_true rfl) ⟨Nat.zero_le _, Nat.zero_le _⟩ dX4_creep_5 ?_
  refine k_ifnD (P := (-8) ≤ v ∧ v ≤ 8) (tgt := 13) hx hb dX4_creep_8 (by decide) (fun c_8 => ?_) (fun c_8 => ?_)
  · exact absurd c_8 (by omega)
  · refine lv_iconst (v := iI (0)) hx hb dX4_creep_11 rfl ?_
    exact ro_zret (a := 0) hx hb hr hlocks dX4_creep_12 (rfl)

def rmX4_right : Room := { frames := 2, cells := 0, slots := 0, locals := 43 }
set_option maxRecDepth 20000 in
theorem inX4_X4_right : ∀ w ∈ wsX40, w ∈ wsX4_right := by decide +kernel
set_option maxHeartbeats 4000000 in
set_option maxRecDepth 100000 in
theorem c_X4_right (lM : Launch) (G : GG) (sz : Nat) (x im : Nat) (t rw cm tr : Nat) (cr : Int) (ly md aw ad ac ao ax : Nat) (p sa qo qi qs qp qh dn : Nat) (AC DN : Nat → Int) (h1 : dn < 100) : Met lM yX4_right wsX4_right rmX4_right (rwP G [.ref x] [(t, .inr (3, [.int (iI (((rw : Nat) : Int))), .int (iI (((cm : Nat) : Int))), .int (iI (((tr : Nat) : Int))), .int (iI (cr)), .int (iI (((ly : Nat) : Int))), .int (iI (((md : Nat) : Int))), .ref aw, .ref ad, .ref ac, .ref ao, .ref ax])), (ad, .inl (G.2 0, 4, .inl (fun iX => iI (DN iX)))), (ac, .inl (G.2 0, 4, .inl (fun iX => iI (AC iX)))), (p, .inr (1, [.ref sa, .ref qo, .ref qi, .ref qs, .ref qp, .ref qh, .int (iI (((dn : Nat) : Int)))]))] [(x, .inr (4, [.ref t, .ref p, .ref im]))] sz) (rwA G (va_A [(t, .inr (3, [.int (iI (((rw : Nat) : Int))), .int (iI (((cm : Nat) : Int))), .int (iI (((tr : Nat) : Int))), .int (iI (cr)), .int (iI (((ly : Nat) : Int))), .int (iI (((md : Nat) : Int))), .ref aw, .ref ad, .ref ac, .ref ao, .ref ax])), (ad, .inl (G.2 0, 4, .inl (fun iX => iI (DN iX)))), (ac, .inl (G.2 0, 4, .inl (fun iX => iI (AC iX)))), (p, .inr (1, [.ref sa, .ref qo, .ref qi, .ref qs, .ref qp, .ref qh, .int (iI (((dn : Nat) : Int)))]))] sz) (det none [(t, .inr (3, [.int (iI (((rw : Nat) : Int))), .int (iI (((cm : Nat) : Int))), .int (iI (((tr : Nat) : Int))), .int (iI (0)), .int (iI (((ly : Nat) : Int))), .int (iI (((md : Nat) : Int))), .ref aw, .ref ad, .ref ac, .ref ao, .ref ax])), (ad, .inl (G.2 0, 4, .inl (fun iX => iI ((fun _ => 0) iX)))), (ac, .inl (G.2 0, 4, .inl (fun iX => iI ((fun _ => 0) iX)))), (p, .inr (1, [.ref sa, .ref qo, .ref qi, .ref qs, .ref qp, .ref qh, .int (iI (((min dn 2 : Nat) : Int)))]))])) 0 0 (va_A [(t, .inr (3, [.int (iI (((rw : Nat) : Int))), .int (iI (((cm : Nat) : Int))), .int (iI (((tr : Nat) : Int))), .int (iI (cr)), .int (iI (((ly : Nat) : Int))), .int (iI (((md : Nat) : Int))), .ref aw, .ref ad, .ref ac, .ref ao, .ref ax])), (ad, .inl (G.2 0, 4, .inl (fun iX => iI (DN iX)))), (ac, .inl (G.2 0, 4, .inl (fun iX => iI (AC iX)))), (p, .inr (1, [.ref sa, .ref qo, .ref qi, .ref qs, .ref qp, .ref qh, .int (iI (((dn : Nat) : Int)))]))] sz) := by
  refine rw_of (cc := cX4_right) (maxL := 1) (ret := none) (by decide) rfl (Nat.le_of_ble_eq_true rfl) ?_
  intro pM eM sM mM bM tM cM hx hb hr hts hown hlocks hml hin hG A hA hP hD hS hV0 hVA ls hl
  have hown : sM.vm.findClass RX4 = some mM.cls := hown
  have hl : lv_has ls 1 [(0, .ref x)] := hl
  refine lv_aload_n hx hb dX4_right_0 rfl (lv_at hl 0 rfl) ?_
  refine va_get (D := G.1) (ci := 4) (v := .ref t) (C := RX4) (T := TX4) (N := 3) hx hb hts inX4_X4_right hown hG.1 (rk hV0 hVA hS) 0 rfl rfl 0 (by decide) (hts (.fieldLink RX4 10 "InkOverInk" "now" "LInkOverInk$Sheet;") (by decide +kernel)) (fun _ h9 => h9) rfl dX4_right_1 ?_
  refine k_rwV (rest := []) (wr := [(p, .inr (1, [.ref sa, .ref qo, .ref qi, .ref qs, .ref qp, .ref qh, .int (iI (((dn : Nat) : Int)))]))]) (w := [(t, .inr (3, [.int (iI (((rw : Nat) : Int))), .int (iI (((cm : Nat) : Int))), .int (iI (((tr : Nat) : Int))), .int (iI (cr)), .int (iI (((ly : Nat) : Int))), .int (iI (((md : Nat) : Int))), .ref aw, .ref ad, .ref ac, .ref ao, .ref ax])), (ad, .inl (G.2 0, 4, .inl (fun iX => iI (DN iX)))), (ac, .inl (G.2 0, 4, .inl (fun iX => iI (AC iX))))]) (v := []) [] ⟨hx, hb, hml, hown, hts⟩ (c_X3_layRight lM G sM.heap.size t rw cm tr cr ly md aw ad ac ao ax AC DN ) (cwV 0 hts gX4_right_X3_layRight rfl rfl rfl (by decide +kernel) ⟨Nat.le_of_ble_eq_true rfl, Nat.le_of_ble_eq_true rfl⟩) hG (va_recv hG.1 hP (ci := 3) (q0 := 0) rfl rfl) hP hD hS hA [0, 1, 2] [3] rfl rfl (by decide) (fun k q h => by simp at h) ap_nil rfl rfl hl.1 (Nat.le_of_ble_eq_true rfl) ⟨Nat.le_of_ble_eq_true rfl, Nat.le_of_ble_eq_true rfl⟩ dX4_right_4 (fun o9 w9 H locs h9 hP hD hS => ?_)
  obtain ⟨rfl, rfl⟩ := h9
  have hP := hP.sub (ws' := [(t, .inr (3, [.int (iI (((rw : Nat) : Int))), .int (iI (((cm : Nat) : Int))), .int (iI (((tr : Nat) : Int))), .int (iI (0)), .int (iI (((ly : Nat) : Int))), .int (iI (((md : Nat) : Int))), .ref aw, .ref ad, .ref ac, .ref ao, .ref ax])), (ad, .inl (G.2 0, 4, .inl (fun iX => iI ((fun _ => 0) iX)))), (ac, .inl (G.2 0, 4, .inl (fun iX => iI ((fun _ => 0) iX)))), (p, .inr (1, [.ref sa, .ref qo, .ref qi, .ref qs, .ref qp, .ref qh, .int (iI (((dn : Nat) : Int)))]))]) [1, 2, 3, 0] rfl
  have hD := hD.sub (ws' := [(t, .inr (3, [.int (iI (((rw : Nat) : Int))), .int (iI (((cm : Nat) : Int))), .int (iI (((tr : Nat) : Int))), .int (iI (0)), .int (iI (((ly : Nat) : Int))), .int (iI (((md : Nat) : Int))), .ref aw, .ref ad, .ref ac, .ref ao, .ref ax])), (ad, .inl (G.2 0, 4, .inl (fun iX => iI ((fun _ => 0) iX)))), (ac, .inl (G.2 0, 4, .inl (fun iX => iI ((fun _ => 0) iX)))), (p, .inr (1, [.ref sa, .ref qo, .ref qi, .ref qs, .ref qp, .ref qh, .int (iI (((dn : Nat) : Int)))]))]) [1, 2, 3, 0] (by decide) rfl
  refine lv_aload_n hx hb dX4_right_7 rfl (lv_at hl 0 rfl) ?_
  refine va_get (D := G.1) (ci := 4) (v := .ref p) (C := RX4) (T := TX4) (N := 3) hx hb hts inX4_X4_right hown hG.1 (rk hV0 hVA hS) 0 rfl rfl 1 (by decide) (hts (.fieldLink RX4 19 "InkOverInk" "press" "LInkOverInk$Press;") (by decide +kernel)) (fun _ h9 => h9) rfl dX4_right_8 ?_
  refine lv_iconst (v := iI (2)) hx hb dX4_right_11 rfl ?_
  refine k_rwV (rest := []) (wr := [(t, .inr (3, [.int (iI (((rw : Nat) : Int))), .int (iI (((cm : Nat) : Int))), .int (iI (((tr : Nat) : Int))), .int (iI (0)), .int (iI (((ly : Nat) : Int))), .int (iI (((md : Nat) : Int))), .ref aw, .ref ad, .ref ac, .ref ao, .ref ax])), (ad, .inl (G.2 0, 4, .inl (fun iX => iI ((fun _ => 0) iX)))), (ac, .inl (G.2 0, 4, .inl (fun iX => iI ((fun _ => 0) iX))))]) (w := [(p, .inr (1, [.ref sa, .ref qo, .ref qi, .ref qs, .ref qp, .ref qh, .int (iI (((dn : Nat) : Int)))]))]) (v := []) [.int (iI (2))] ⟨hx, hb, hml, hown, hts⟩ (c_X1_keepOnly lM G H.size p sa qo qi qs qp qh dn 2 (by omega) (by omega)) (cwV 1 hts gX4_right_X1_keepOnly rfl rfl rfl (by decide +kernel) ⟨Nat.le_of_ble_eq_true rfl, Nat.le_of_ble_eq_true rfl⟩) hG (va_recv hG.1 hP (ci := 1) (q0 := 3) rfl rfl) hP hD hS hA [3] [0, 1, 2] rfl rfl (by decide) (fun k q h => by simp at h) ap_nil rfl rfl hl.1 (Nat.le_of_ble_eq_true rfl) ⟨Nat.le_of_ble_eq_true rfl, Nat.le_of_ble_eq_true rfl⟩ dX4_right_12 (fun o9 w9 H locs h9 hP hD hS => ?_)
  obtain ⟨rfl, rfl⟩ := h9
  have hP := hP.sub (ws' := [(t, .inr (3, [.int (iI (((rw : Nat) : Int))), .int (iI (((cm : Nat) : Int))), .int (iI (((tr : Nat) : Int))), .int (iI (0)), .int (iI (((ly : Nat) : Int))), .int (iI (((md : Nat) : Int))), .ref aw, .ref ad, .ref ac, .ref ao, .ref ax])), (ad, .inl (G.2 0, 4, .inl (fun iX => iI ((fun _ => 0) iX)))), (ac, .inl (G.2 0, 4, .inl (fun iX => iI ((fun _ => 0) iX)))), (p, .inr (1, [.ref sa, .ref qo, .ref qi, .ref qs, .ref qp, .ref qh, .int (iI (((min dn 2 : Nat) : Int)))]))]) [0, 1, 2, 3] rfl
  have hD := hD.sub (ws' := [(t, .inr (3, [.int (iI (((rw : Nat) : Int))), .int (iI (((cm : Nat) : Int))), .int (iI (((tr : Nat) : Int))), .int (iI (0)), .int (iI (((ly : Nat) : Int))), .int (iI (((md : Nat) : Int))), .ref aw, .ref ad, .ref ac, .ref ao, .ref ax])), (ad, .inl (G.2 0, 4, .inl (fun iX => iI ((fun _ => 0) iX)))), (ac, .inl (G.2 0, 4, .inl (fun iX => iI ((fun _ => 0) iX)))), (p, .inr (1, [.ref sa, .ref qo, .ref qi, .ref qs, .ref qp, .ref qh, .int (iI (((min dn 2 : Nat) : Int)))]))]) [0, 1, 2, 3] (by decide) rfl
  exact rw_vret hx hb hr hlocks hP hD hS dX4_right_15 (⟨rfl, rfl⟩)

def rmX4_lighter : Room := { frames := 3, cells := 0, slots := 0, locals := 68 }
set_option maxRecDepth 20000 in
theorem inX4_X4_lighter : ∀ w ∈ wsX40, w ∈ wsX4_lighter := by decide +kernel
set_option maxHeartbeats 4000000 in
set_option maxRecDepth 100000 in
theorem c_X4_lighter (lM : Launch) (G : GG) (x im : Nat) (t rw cm tr : Nat) (cr : Int) (ly md aw ad ac ao ax : Nat) (p : Nat) (WT : Nat → Nat) (a b : Nat) (h1 : a < 16) (h2 : b < 16) (h3 : ∀ k, WT k ≤ 20) : Met lM yX4_lighter wsX4_lighter rmX4_lighter (ro G [.ref x, .int (iI (((a : Nat) : Int))), .int (iI (((b : Nat) : Int)))] [(x, .inr (4, [.ref t, .ref p, .ref im])), (t, .inr (3, [.int (iI (((rw : Nat) : Int))), .int (iI (((cm : Nat) : Int))), .int (iI (((tr : Nat) : Int))), .int (iI (cr)), .int (iI (((ly : Nat) : Int))), .int (iI (((md : Nat) : Int))), .ref aw, .ref ad, .ref ac, .ref ao, .ref ax])), (aw, .inl (G.2 0, 4, .inl (fun iX => iI ((WT iX : Nat) : Int))))]) (roQ (.int (iI (b2i (decide (lightP WT a b)))))) 0 0 (fun _ => False) := by
  refine ro_of (cc := cX4_lighter) (maxL := 3) (ret := (some .boolean)) (by decide) rfl (Nat.le_of_ble_eq_true rfl) ?_
  intro pM eM sM mM bM tM cM hx hb hr hts hown hlocks hml hG hP ls hl
  have hown : sM.vm.findClass RX4 = some mM.cls := hown
  have hl : lv_has ls 3 [(0, .ref x), (1, .int (iI (((a : Nat) : Int)))), (2, .int (iI (((b : Nat) : Int))))] := hl
  refine lv_iload_n hx hb dX4_lighter_0 rfl (lv_at hl 1 rfl) ?_
  refine k_roS (rest := []) [.int (iI (((a : Nat) : Int)))] ⟨hx, hb, hml, hown, hts⟩ (c_X4_isColour lM G ((a : Nat) : Int) (by omega)) (va_cwS 1 hts gX4_lighter_X4_isColour rfl rfl rfl (by decide +kernel) ⟨Nat.le_of_ble_eq_true rfl, Nat.le_of_ble_eq_true rfl⟩) hG (fun k q h => by simp at h) rfl rfl hl.1 (Nat.le_of_ble_eq_true rfl) ⟨Nat.zero_le _, Nat.zero_le _⟩ dX4_lighter_1 ?_
  refine k_ifD (P := 0 ≤ ((a : Nat) : Int) ∧ ((a : Nat) : Int) ≤ 15) (tgt := 30) hx hb dX4_lighter_4 (by decide) (fun c_4 => ?_) (fun c_4 => ?_)
  · exact absurd c_4 (by omega)
  · refine lv_iload_n hx hb dX4_lighter_7 rfl (lv_at hl 2 rfl) ?_
    refine k_roS (rest := []) [.int (iI (((b : Nat) : Int)))] ⟨hx, hb, hml, hown, hts⟩ (c_X4_isColour lM G ((b : Nat) : Int) (by omega)) (va_cwS 1 hts gX4_lighter_X4_isColour rfl rfl rfl (by decide +kernel) ⟨Nat.le_of_ble_eq_true rfl, Nat.le_of_ble_eq_true rfl⟩) hG (fun k q h => by simp at h) rfl rfl hl.1 (Nat.le_of_ble_eq_true rfl) ⟨Nat.zero_le _, Nat.zero_le _⟩ dX4_lighter_8 ?_
    refine k_ifD (P := 0 ≤ ((b : Nat) : Int) ∧ ((b : Nat) : Int) ≤ 15) (tgt := 30) hx hb dX4_lighter_11 (by decide) (fun c_11 => ?_) (fun c_11 => ?_)
    · exact absurd c_11 (by omega)
    · refine lv_aload_n hx hb dX4_lighter_14 rfl (lv_at hl 0 rfl) ?_
      refine va_get (D := G.1) (ci := 4) (v := .ref t) (C := RX4) (T := TX4) (N := 3) hx hb hts inX4_X4_lighter hown hG.1 hP 0 rfl rfl 0 (by decide) (hts (.fieldLink RX4 10 "InkOverInk" "now" "LInkOverInk$Sheet;") (by decide +kernel)) (fun _ h9 => h9) rfl dX4_lighter_15 ?_
      refine lv_iload_n hx hb dX4_lighter_18 rfl (lv_at hl 1 rfl) ?_
      refine lv_iload_n hx hb dX4_lighter_19 rfl (lv_at hl 2 rfl) ?_
      refine k_roV (rest := []) [.int (iI (((a : Nat) : Int))), .int (iI (((b : Nat) : Int)))] ⟨hx, hb, hml, hown, hts⟩ (c_X3_isLighter lM G t rw cm tr cr ly md aw ad ac ao ax WT a b (by omega) (by omega) h3) (cwV 2 hts gX4_lighter_X3_isLighter rfl rfl rfl (by decide +kernel) ⟨Nat.le_of_ble_eq_true rfl, Nat.le_of_ble_eq_true rfl⟩) hG (va_recv hG.1 hP (ci := 3) (q0 := 1) rfl rfl) (hP.sub (ws' := [(t, .inr (3, [.int (iI (((rw : Nat) : Int))), .int (iI (((cm : Nat) : Int))), .int (iI (((tr : Nat) : Int))), .int (iI (cr)), .int (iI (((ly : Nat) : Int))), .int (iI (((md : Nat) : Int))), .ref aw, .ref ad, .ref ac, .ref ao, .ref ax])), (aw, .inl (G.2 0, 4, .inl (fun iX => iI ((WT iX : Nat) : Int))))]) [1, 2] rfl) rfl rfl hl.1 (Nat.le_of_ble_eq_true rfl) ⟨Nat.zero_le _, Nat.zero_le _⟩ dX4_lighter_20 ?_
      refine k_ifD (P := lightP WT a b) (tgt := 30) hx hb dX4_lighter_23 (by decide) (fun c_23 => ?_) (fun c_23 => ?_)
      · refine lv_iconst (v := iI (0)) hx hb dX4_lighter_30 rfl ?_
        exact ro_zret (a := 0) hx hb hr hlocks dX4_lighter_31 ((b2i_f c_23).symm)
      · refine lv_iconst (v := iI (1)) hx hb dX4_lighter_26 rfl ?_
        refine lv_goto (tgt := 31) hx hb dX4_lighter_27 (by decide) ?_
        exact ro_zret (a := 1) hx hb hr hlocks dX4_lighter_31 ((b2i_t c_23).symm)

set_option maxHeartbeats 4000000 in
set_option maxRecDepth 100000 in
theorem c_X4_lighter_N (lM : Launch) (G : GG) (x : Nat) (a b : Int) (h1 : ¬ ((0 ≤ a ∧ a ≤ 15) ∧ (0 ≤ b ∧ b ≤ 15))) (h2 : -2147483648 ≤ a ∧ a < 2147483648) (h3 : -2147483648 ≤ b ∧ b < 2147483648) : Met lM yX4_lighter wsX4_lighter rmX4_lighter (ro G [.ref x, .int (iI (a)), .int (iI (b))] []) (roQ (.int (iI (b2i false)))) 0 0 (fun _ => False) := by
  refine ro_of (cc := cX4_lighter) (maxL := 3) (ret := (some .boolean)) (by decide) rfl (Nat.le_of_ble_eq_true rfl) ?_
  intro pM eM sM mM bM tM cM hx hb hr hts hown hlocks hml hG hP ls hl
  have hown : sM.vm.findClass RX4 = some mM.cls := hown
  have hl : lv_has ls 3 [(0, .ref x), (1, .int (iI (a))), (2, .int (iI (b)))] := hl
  refine lv_iload_n hx hb dX4_lighter_0 rfl (lv_at hl 1 rfl) ?_
  refine k_roS (rest := []) [.int (iI (a))] ⟨hx, hb, hml, hown, hts⟩ (c_X4_isColour lM G a (by omega)) (va_cwS 1 hts gX4_lighter_X4_isColour rfl rfl rfl (by decide +kernel) ⟨Nat.le_of_ble_eq_true rfl, Nat.le_of_ble_eq_true rfl⟩) hG (fun k q h => by simp at h) rfl rfl hl.1 (Nat.le_of_ble_eq_true rfl) ⟨Nat.zero_le _, Nat.zero_le _⟩ dX4_lighter_1 ?_
  refine k_ifD (P := 0 ≤ a ∧ a ≤ 15) (tgt := 30) hx hb dX4_lighter_4 (by decide) (fun c_4 => ?_) (fun c_4 => ?_)
  · refine lv_iconst (v := iI (0)) hx hb dX4_lighter_30 rfl ?_
    exact ro_zret (a := 0) hx hb hr hlocks dX4_lighter_31 (rfl)
  · refine lv_iload_n hx hb dX4_lighter_7 rfl (lv_at hl 2 rfl) ?_
    refine k_roS (rest := []) [.int (iI (b))] ⟨hx, hb, hml, hown, hts⟩ (c_X4_isColour lM G b (by omega)) (va_cwS 1 hts gX4_lighter_X4_isColour rfl rfl rfl (by decide +kernel) ⟨Nat.le_of_ble_eq_true rfl, Nat.le_of_ble_eq_true rfl⟩) hG (fun k q h => by simp at h) rfl rfl hl.1 (Nat.le_of_ble_eq_true rfl) ⟨Nat.zero_le _, Nat.zero_le _⟩ dX4_lighter_8 ?_
    refine k_ifD (P := 0 ≤ b ∧ b ≤ 15) (tgt := 30) hx hb dX4_lighter_11 (by decide) (fun c_11 => ?_) (fun c_11 => ?_)
    · refine lv_iconst (v := iI (0)) hx hb dX4_lighter_30 rfl ?_
      exact ro_zret (a := 0) hx hb hr hlocks dX4_lighter_31 (rfl)
    · exact absurd c_11 (by omega)
