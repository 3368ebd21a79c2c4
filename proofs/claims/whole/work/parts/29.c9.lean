def rmX4_tell : Room := { frames := 6, cells := 0, slots := 0, locals := 144 }
set_option maxRecDepth 20000 in
theorem inX1_X4_tell : ∀ w ∈ wsX10, w ∈ wsX4_tell := by decide +kernel
set_option maxRecDepth 20000 in
theorem inX2_X4_tell : ∀ w ∈ wsX20, w ∈ wsX4_tell := by decide +kernel
set_option maxRecDepth 20000 in
theorem inX3_X4_tell : ∀ w ∈ wsX30, w ∈ wsX4_tell := by decide +kernel
set_option maxRecDepth 20000 in
theorem inX4_X4_tell : ∀ w ∈ wsX40, w ∈ wsX4_tell := by decide +kernel
set_option maxHeartbeats 4000000 in
set_option maxRecDepth 100000 in
theorem c_X4_tell (lM : Launch) (G : GG) (sz : Nat) (x im p sa qo qi qs qp qh wo wi wd wp wh : Nat) (s : WSt) (t rw cm tr : Nat) (cr : Int) (ly md aw ad ac ao ax : Nat) (WT OR : Nat → Nat) (AC DN : Nat → Int) (SH : Nat → Option Nat) (SV : Nat → ShT) (LP : List Nat) (f : Nat → va_E) (n y : Nat) (h1 : rw ≤ 16) (h2 : cm ≤ 16) (h3 : ly ≤ 30) (h4 : tr ≤ 6) (h5 : -8 ≤ cr ∧ cr ≤ 8) (h6 : ∀ k, OR k < 30) (h7 : ∀ k, WT k ≤ 20) (h8 : ∀ k, -6 ≤ AC k ∧ AC k ≤ 6) (h9 : ∀ k, -6 ≤ DN k ∧ DN k ≤ 6) (h10 : shOK LP f SH SV) (h11 : wOK s) (h12 : SH n = some y) (h13 : n < 30) : Met lM yX4_tell wsX4_tell rmX4_tell (rwP G [.ref x, .int (iI (((n : Nat) : Int))), .int (iI (8))] [(p, .inr (1, [.ref sa, .ref qo, .ref qi, .ref qs, .ref qp, .ref qh, .int (iI (((s.2.2.2 : Nat) : Int)))])), (sa, .inl (G.2 0, 256, .inl (fun iX => iI (s.1.1 iX)))), (wi, .inl (G.2 0, 4 * 16, .inl (fun iX => iI ((s.1.2.1 iX : Nat) : Int)))), (wo, .inl (G.2 0, 16 * 16, .inl (fun iX => iI ((s.1.2.2.1 iX : Nat) : Int)))), (wd, .inl (G.2 0, 1 * 16, .inl (fun iX => iI ((s.1.2.2.2 iX : Nat) : Int)))), (wp, .inl (G.2 0, 4 * 16, .inl (fun iX => iI ((s.2.1 iX : Nat) : Int)))), (wh, .inl (G.2 0, 4 * 16, .inl (fun iX => iI ((s.2.2.1 iX : Nat) : Int))))] ([(x, .inr (4, [.ref t, .ref p, .ref im])), (qo, .inr (0, [.int (iI (16)), .ref wo])), (qi, .inr (0, [.int (iI (4)), .ref wi])), (qs, .inr (0, [.int (iI (1)), .ref wd])), (qp, .inr (0, [.int (iI (4)), .ref wp])), (qh, .inr (0, [.int (iI (4)), .ref wh])), (t, .inr (3, [.int (iI (((rw : Nat) : Int))), .int (iI (((cm : Nat) : Int))), .int (iI (((tr : Nat) : Int))), .int (iI (cr)), .int (iI (((ly : Nat) : Int))), .int (iI (((md : Nat) : Int))), .ref aw, .ref ad, .ref ac, .ref ao, .ref ax])), (aw, .inl (G.2 0, 4, .inl (fun iX => iI ((WT iX : Nat) : Int)))), (ad, .inl (G.2 0, 4, .inl (fun iX => iI (DN iX)))), (ac, .inl (G.2 0, 4, .inl (fun iX => iI (AC iX)))), (ao, .inl (G.2 0, 30, .inl (fun iX => iI ((OR iX : Nat) : Int)))), (ax, .inl (G.2 2, 30, .inr (.inr (.inr (.inr SH)))))] ++ va_pl LP f) sz) (rwA G (va_A [(p, .inr (1, [.ref sa, .ref qo, .ref qi, .ref qs, .ref qp, .ref qh, .int (iI (((s.2.2.2 : Nat) : Int)))])), (sa, .inl (G.2 0, 256, .inl (fun iX => iI (s.1.1 iX)))), (wi, .inl (G.2 0, 4 * 16, .inl (fun iX => iI ((s.1.2.1 iX : Nat) : Int)))), (wo, .inl (G.2 0, 16 * 16, .inl (fun iX => iI ((s.1.2.2.1 iX : Nat) : Int)))), (wd, .inl (G.2 0, 1 * 16, .inl (fun iX => iI ((s.1.2.2.2 iX : Nat) : Int)))), (wp, .inl (G.2 0, 4 * 16, .inl (fun iX => iI ((s.2.1 iX : Nat) : Int)))), (wh, .inl (G.2 0, 4 * 16, .inl (fun iX => iI ((s.2.2.1 iX : Nat) : Int))))] sz) (det (some (.int (iI (((cntE (wkF OR SH SV WT AC DN cr rw cm tr ly 1 s).1.1 ((n : Nat) : Int) 256 : Nat) : Int))))) [(p, .inr (1, [.ref sa, .ref qo, .ref qi, .ref qs, .ref qp, .ref qh, .int (iI ((((wkF OR SH SV WT AC DN cr rw cm tr ly 1 s).2.2.2 : Nat) : Int)))])), (sa, .inl (G.2 0, 256, .inl (fun iX => iI (((wkF OR SH SV WT AC DN cr rw cm tr ly 1 s).1.1) iX)))), (wi, .inl (G.2 0, 4 * 16, .inl (fun iX => iI ((((wkF OR SH SV WT AC DN cr rw cm tr ly 1 s).1.2.1) iX : Nat) : Int)))), (wo, .inl (G.2 0, 16 * 16, .inl (fun iX => iI ((((wkF OR SH SV WT AC DN cr rw cm tr ly 1 s).1.2.2.1) iX : Nat) : Int)))), (wd, .inl (G.2 0, 1 * 16, .inl (fun iX => iI ((((wkF OR SH SV WT AC DN cr rw cm tr ly 1 s).1.2.2.2) iX : Nat) : Int)))), (wp, .inl (G.2 0, 4 * 16, .inl (fun iX => iI ((((wkF OR SH SV WT AC DN cr rw cm tr ly 1 s).2.1) iX : Nat) : Int)))), (wh, .inl (G.2 0, 4 * 16, .inl (fun iX => iI ((((wkF OR SH SV WT AC DN cr rw cm tr ly 1 s).2.2.1) iX : Nat) : Int))))])) 0 0 (va_A [(p, .inr (1, [.ref sa, .ref qo, .ref qi, .ref qs, .ref qp, .ref qh, .int (iI (((s.2.2.2 : Nat) : Int)))])), (sa, .inl (G.2 0, 256, .inl (fun iX => iI (s.1.1 iX)))), (wi, .inl (G.2 0, 4 * 16, .inl (fun iX => iI ((s.1.2.1 iX : Nat) : Int)))), (wo, .inl (G.2 0, 16 * 16, .inl (fun iX => iI ((s.1.2.2.1 iX : Nat) : Int)))), (wd, .inl (G.2 0, 1 * 16, .inl (fun iX => iI ((s.1.2.2.2 iX : Nat) : Int)))), (wp, .inl (G.2 0, 4 * 16, .inl (fun iX => iI ((s.2.1 iX : Nat) : Int)))), (wh, .inl (G.2 0, 4 * 16, .inl (fun iX => iI ((s.2.2.1 iX : Nat) : Int))))] sz) := by
  refine rw_of (cc := cX4_tell) (maxL := 4) (ret := (some .int)) (by decide) rfl (Nat.le_of_ble_eq_true rfl) ?_
  intro pM eM sM mM bM tM cM hx hb hr hts hown hlocks hml hin hG A hA hP hD hS hV0 hVA ls hl
  have hown : sM.vm.findClass RX4 = some mM.cls := hown
  have hl : lv_has ls 4 [(0, .ref x), (1, .int (iI (((n : Nat) : Int)))), (2, .int (iI (8)))] := hl
  refine lv_aload_n hx hb dX4_tell_0 rfl (lv_at hl 0 rfl) ?_
  refine va_get (D := G.1) (ci := 4) (v := .ref t) (C := RX4) (T := TX4) (N := 3) hx hb hts inX4_X4_tell hown hG.1 (rk hV0 hVA hS) 0 rfl rfl 0 (by decide) (hts (.fieldLink RX4 10 "InkOverInk" "now" "LInkOverInk$Sheet;") (by decide +kernel)) (fun _ h9 => h9) rfl dX4_tell_1 ?_
  refine lv_iload_n hx hb dX4_tell_4 rfl (lv_at hl 1 rfl) ?_
  refine k_roV (rest := []) [.int (iI (((n : Nat) : Int)))] ⟨hx, hb, hml, hown, hts⟩ (c_X3_find lM G t rw cm tr cr ly md aw ad ac ao ax SH ((n : Nat) : Int) (by omega)) (cwV 1 hts gX4_tell_X3_find rfl rfl rfl (by decide +kernel) ⟨Nat.le_of_ble_eq_true rfl, Nat.le_of_ble_eq_true rfl⟩) hG (va_recv hG.1 (rk hV0 hVA hS) (ci := 3) (q0 := 6) rfl rfl) ((rk hV0 hVA hS).sub (ws' := [(t, .inr (3, [.int (iI (((rw : Nat) : Int))), .int (iI (((cm : Nat) : Int))), .int (iI (((tr : Nat) : Int))), .int (iI (cr)), .int (iI (((ly : Nat) : Int))), .int (iI (((md : Nat) : Int))), .ref aw, .ref ad, .ref ac, .ref ao, .ref ax])), (ax, .inl (G.2 2, 30, .inr (.inr (.inr (.inr SH)))))]) [6, 11] rfl) rfl rfl hl.1 (Nat.le_of_ble_eq_true rfl) ⟨Nat.zero_le _, Nat.zero_le _⟩ dX4_tell_5 ?_
  have eo : (if 0 ≤ ((n : Nat) : Int) ∧ ((n : Nat) : Int) ≤ 29 then SH (((n : Nat) : Int)).toNat else none) = some y := by rw [if_pos (by omega)]; exact h12
  rw [eo]
  refine lv_astore_n (lv' := [(3, .ref y), (0, .ref x), (1, .int (iI (((n : Nat) : Int)))), (2, .int (iI (8)))]) hx hb dX4_tell_8 rfl hl (by decide) rfl (fun ls hl => ?_)
  refine lv_aload_n hx hb dX4_tell_9 rfl (lv_at hl 0 rfl) ?_
  refine lv_ifnonnull (tgt := 15) hx hb dX4_tell_10 (by decide) ?_
  refine lv_iload_n hx hb dX4_tell_15 rfl (lv_at hl 3 rfl) ?_
  refine k_tableIn (z := 8) (v := 8) (off := 104) (tgt := 120) hx hb rfl dX4_tell_16 (by decide) (by decide) (by decide) ?_
  refine lv_aload_n hx hb dX4_tell_120 rfl (lv_at hl 1 rfl) ?_
  refine va_get (D := G.1) (ci := 4) (v := .ref p) (C := RX4) (T := TX4) (N := 3) hx hb hts inX4_X4_tell hown hG.1 (rk hV0 hVA hS) 0 rfl rfl 1 (by decide) (hts (.fieldLink RX4 19 "InkOverInk" "press" "LInkOverInk$Press;") (by decide +kernel)) (fun _ h9 => h9) rfl dX4_tell_121 ?_
  refine lv_aload_n hx hb dX4_tell_124 rfl (lv_at hl 1 rfl) ?_
  refine va_get (D := G.1) (ci := 4) (v := .ref t) (C := RX4) (T := TX4) (N := 3) hx hb hts inX4_X4_tell hown hG.1 (rk hV0 hVA hS) 0 rfl rfl 0 (by decide) (hts (.fieldLink RX4 10 "InkOverInk" "now" "LInkOverInk$Sheet;") (by decide +kernel)) (fun _ h9 => h9) rfl dX4_tell_125 ?_
  refine lv_iconst (v := iI (1)) hx hb dX4_tell_128 rfl ?_
  refine k_rwV (rest := []) (wr := []) (w := [(p, .inr (1, [.ref sa, .ref qo, .ref qi, .ref qs, .ref qp, .ref qh, .int (iI (((s.2.2.2 : Nat) : Int)))])), (sa, .inl (G.2 0, 256, .inl (fun iX => iI (s.1.1 iX)))), (wi, .inl (G.2 0, 4 * 16, .inl (fun iX => iI ((s.1.2.1 iX : Nat) : Int)))), (wo, .inl (G.2 0, 16 * 16, .inl (fun iX => iI ((s.1.2.2.1 iX : Nat) : Int)))), (wd, .inl (G.2 0, 1 * 16, .inl (fun iX => iI ((s.1.2.2.2 iX : Nat) : Int)))), (wp, .inl (G.2 0, 4 * 16, .inl (fun iX => iI ((s.2.1 iX : Nat) : Int)))), (wh, .inl (G.2 0, 4 * 16, .inl (fun iX => iI ((s.2.2.1 iX : Nat) : Int))))]) (v := ([(qo, .inr (0, [.int (iI (16)), .ref wo])), (qi, .inr (0, [.int (iI (4)), .ref wi])), (qs, .inr (0, [.int (iI (1)), .ref wd])), (qp, .inr (0, [.int (iI (4)), .ref wp])), (qh, .inr (0, [.int (iI (4)), .ref wh])), (t, .inr (3, [.int (iI (((rw : Nat) : Int))), .int (iI (((cm : Nat) : Int))), .int (iI (((tr : Nat) : Int))), .int (iI (cr)), .int (iI (((ly : Nat) : Int))), .int (iI (((md : Nat) : Int))), .ref aw, .ref ad, .ref ac, .ref ao, .ref ax])), (aw, .inl (G.2 0, 4, .inl (fun iX => iI ((WT iX : Nat) : Int)))), (ad, .inl (G.2 0, 4, .inl (fun iX => iI (DN iX)))), (ac, .inl (G.2 0, 4, .inl (fun iX => iI (AC iX)))), (ao, .inl (G.2 0, 30, .inl (fun iX => iI ((OR iX : Nat) : Int)))), (ax, .inl (G.2 2, 30, .inr (.inr (.inr (.inr SH)))))] ++ va_pl LP f)) [.ref t, .int (iI (1))] ⟨hx, hb, hml, hown, hts⟩ (c_X1_work lM G sM.heap.size p sa qo qi qs qp qh wo wi wd wp wh 1 s t rw cm tr cr ly md aw ad ac ao ax WT OR AC DN SH SV LP f (by omega) (by omega) (by omega) (by omega) (by omega) h6 h7 h8 h9 h10 h11 (by omega)) (cwV 2 hts gX4_tell_X1_work rfl rfl rfl (by decide +kernel) ⟨Nat.le_of_ble_eq_true rfl, Nat.le_of_ble_eq_true rfl⟩) hG (va_recv hG.1 hP (ci := 1) (q0 := 0) rfl rfl) hP hD hS hA [0, 1, 2, 3, 4, 5, 6] [] rfl rfl (by decide) (va_P.part (X := [(x, .inr (4, [.ref t, .ref p, .ref im])), (qo, .inr (0, [.int (iI (16)), .ref wo])), (qi, .inr (0, [.int (iI (4)), .ref wi])), (qs, .inr (0, [.int (iI (1)), .ref wd])), (qp, .inr (0, [.int (iI (4)), .ref wp])), (qh, .inr (0, [.int (iI (4)), .ref wh])), (t, .inr (3, [.int (iI (((rw : Nat) : Int))), .int (iI (((cm : Nat) : Int))), .int (iI (((tr : Nat) : Int))), .int (iI (cr)), .int (iI (((ly : Nat) : Int))), .int (iI (((md : Nat) : Int))), .ref aw, .ref ad, .ref ac, .ref ao, .ref ax])), (aw, .inl (G.2 0, 4, .inl (fun iX => iI ((WT iX : Nat) : Int)))), (ad, .inl (G.2 0, 4, .inl (fun iX => iI (DN iX)))), (ac, .inl (G.2 0, 4, .inl (fun iX => iI (AC iX)))), (ao, .inl (G.2 0, 30, .inl (fun iX => iI ((OR iX : Nat) : Int)))), (ax, .inl (G.2 2, 30, .inr (.inr (.inr (.inr SH)))))]) (cx := [(qo, .inr (0, [.int (iI (16)), .ref wo])), (qi, .inr (0, [.int (iI (4)), .ref wi])), (qs, .inr (0, [.int (iI (1)), .ref wd])), (qp, .inr (0, [.int (iI (4)), .ref wp])), (qh, .inr (0, [.int (iI (4)), .ref wh])), (t, .inr (3, [.int (iI (((rw : Nat) : Int))), .int (iI (((cm : Nat) : Int))), .int (iI (((tr : Nat) : Int))), .int (iI (cr)), .int (iI (((ly : Nat) : Int))), .int (iI (((md : Nat) : Int))), .ref aw, .ref ad, .ref ac, .ref ao, .ref ax])), (aw, .inl (G.2 0, 4, .inl (fun iX => iI ((WT iX : Nat) : Int)))), (ad, .inl (G.2 0, 4, .inl (fun iX => iI (DN iX)))), (ac, .inl (G.2 0, 4, .inl (fun iX => iI (AC iX)))), (ao, .inl (G.2 0, 30, .inl (fun iX => iI ((OR iX : Nat) : Int)))), (ax, .inl (G.2 2, 30, .inr (.inr (.inr (.inr SH)))))]) (rk hV0 hVA hS) [1, 2, 3, 4, 5, 6, 7, 8, 9, 10, 11] rfl) (ap_roP (X := [(x, .inr (4, [.ref t, .ref p, .ref im])), (qo, .inr (0, [.int (iI (16)), .ref wo])), (qi, .inr (0, [.int (iI (4)), .ref wi])), (qs, .inr (0, [.int (iI (1)), .ref wd])), (qp, .inr (0, [.int (iI (4)), .ref wp])), (qh, .inr (0, [.int (iI (4)), .ref wh])), (t, .inr (3, [.int (iI (((rw : Nat) : Int))), .int (iI (((cm : Nat) : Int))), .int (iI (((tr : Nat) : Int))), .int (iI (cr)), .int (iI (((ly : Nat) : Int))), .int (iI (((md : Nat) : Int))), .ref aw, .ref ad, .ref ac, .ref ao, .ref ax])), (aw, .inl (G.2 0, 4, .inl (fun iX => iI ((WT iX : Nat) : Int)))), (ad, .inl (G.2 0, 4, .inl (fun iX => iI (DN iX)))), (ac, .inl (G.2 0, 4, .inl (fun iX => iI (AC iX)))), (ao, .inl (G.2 0, 30, .inl (fun iX => iI ((OR iX : Nat) : Int)))), (ax, .inl (G.2 2, 30, .inr (.inr (.inr (.inr SH)))))]) (cx := [(qo, .inr (0, [.int (iI (16)), .ref wo])), (qi, .inr (0, [.int (iI (4)), .ref wi])), (qs, .inr (0, [.int (iI (1)), .ref wd])), (qp, .inr (0, [.int (iI (4)), .ref wp])), (qh, .inr (0, [.int (iI (4)), .ref wh])), (t, .inr (3, [.int (iI (((rw : Nat) : Int))), .int (iI (((cm : Nat) : Int))), .int (iI (((tr : Nat) : Int))), .int (iI (cr)), .int (iI (((ly : Nat) : Int))), .int (iI (((md : Nat) : Int))), .ref aw, .ref ad, .ref ac, .ref ao, .ref ax])), (aw, .inl (G.2 0, 4, .inl (fun iX => iI ((WT iX : Nat) : Int)))), (ad, .inl (G.2 0, 4, .inl (fun iX => iI (DN iX)))), (ac, .inl (G.2 0, 4, .inl (fun iX => iI (AC iX)))), (ao, .inl (G.2 0, 30, .inl (fun iX => iI ((OR iX : Nat) : Int)))), (ax, .inl (G.2 2, 30, .inr (.inr (.inr (.inr SH)))))]) hD hVA [0, 1, 2, 3, 4, 5, 6] [1, 2, 3, 4, 5, 6, 7, 8, 9, 10, 11] rfl rfl) rfl rfl hl.1 (Nat.le_of_ble_eq_true rfl) ⟨Nat.le_of_ble_eq_true rfl, Nat.le_of_ble_eq_true rfl⟩ dX4_tell_129 (fun o9 w9 H locs h9 hP hD hS => ?_)
  obtain ⟨rfl, rfl⟩ := h9
  have hP := hP.sub (ws' := [(p, .inr (1, [.ref sa, .ref qo, .ref qi, .ref qs, .ref qp, .ref qh, .int (iI ((((wk3 AC DN cr rw cm 1 (wk2 WT tr 1 (wk1 (dPic OR SH SV rw cm ly ly) 1 s))).2.2.2 : Nat) : Int)))])), (sa, .inl (G.2 0, 256, .inl (fun iX => iI (((wk3 AC DN cr rw cm 1 (wk2 WT tr 1 (wk1 (dPic OR SH SV rw cm ly ly) 1 s))).1.1) iX)))), (wi, .inl (G.2 0, 4 * 16, .inl (fun iX => iI ((((wk3 AC DN cr rw cm 1 (wk2 WT tr 1 (wk1 (dPic OR SH SV rw cm ly ly) 1 s))).1.2.1) iX : Nat) : Int)))), (wo, .inl (G.2 0, 16 * 16, .inl (fun iX => iI ((((wk3 AC DN cr rw cm 1 (wk2 WT tr 1 (wk1 (dPic OR SH SV rw cm ly ly) 1 s))).1.2.2.1) iX : Nat) : Int)))), (wd, .inl (G.2 0, 1 * 16, .inl (fun iX => iI ((((wk3 AC DN cr rw cm 1 (wk2 WT tr 1 (wk1 (dPic OR SH SV rw cm ly ly) 1 s))).1.2.2.2) iX : Nat) : Int)))), (wp, .inl (G.2 0, 4 * 16, .inl (fun iX => iI ((((wk3 AC DN cr rw cm 1 (wk2 WT tr 1 (wk1 (dPic OR SH SV rw cm ly ly) 1 s))).2.1) iX : Nat) : Int)))), (wh, .inl (G.2 0, 4 * 16, .inl (fun iX => iI ((((wk3 AC DN cr rw cm 1 (wk2 WT tr 1 (wk1 (dPic OR SH SV rw cm ly ly) 1 s))).2.2.1) iX : Nat) : Int))))]) [0, 1, 2, 3, 4, 5, 6] rfl
  have hD := hD.sub (ws' := [(p, .inr (1, [.ref sa, .ref qo, .ref qi, .ref qs, .ref qp, .ref qh, .int (iI ((((wk3 AC DN cr rw cm 1 (wk2 WT tr 1 (wk1 (dPic OR SH SV rw cm ly ly) 1 s))).2.2.2 : Nat) : Int)))])), (sa, .inl (G.2 0, 256, .inl (fun iX => iI (((wk3 AC DN cr rw cm 1 (wk2 WT tr 1 (wk1 (dPic OR SH SV rw cm ly ly) 1 s))).1.1) iX)))), (wi, .inl (G.2 0, 4 * 16, .inl (fun iX => iI ((((wk3 AC DN cr rw cm 1 (wk2 WT tr 1 (wk1 (dPic OR SH SV rw cm ly ly) 1 s))).1.2.1) iX : Nat) : Int)))), (wo, .inl (G.2 0, 16 * 16, .inl (fun iX => iI ((((wk3 AC DN cr rw cm 1 (wk2 WT tr 1 (wk1 (dPic OR SH SV rw cm ly ly) 1 s))).1.2.2.1) iX : Nat) : Int)))), (wd, .inl (G.2 0, 1 * 16, .inl (fun iX => iI ((((wk3 AC DN cr rw cm 1 (wk2 WT tr 1 (wk1 (dPic OR SH SV rw cm ly ly) 1 s))).1.2.2.2) iX : Nat) : Int)))), (wp, .inl (G.2 0, 4 * 16, .inl (fun iX => iI ((((wk3 AC DN cr rw cm 1 (wk2 WT tr 1 (wk1 (dPic OR SH SV rw cm ly ly) 1 s))).2.1) iX : Nat) : Int)))), (wh, .inl (G.2 0, 4 * 16, .inl (fun iX => iI ((((wk3 AC DN cr rw cm 1 (wk2 WT tr 1 (wk1 (dPic OR SH SV rw cm ly ly) 1 s))).2.2.1) iX : Nat) : Int))))]) [0, 1, 2, 3, 4, 5, 6] (by decide) rfl
  have oW : wOK (wkF OR SH SV WT AC DN cr rw cm tr ly 1 s) := wOKF h2 h6 h11
  refine lv_aload_n hx hb dX4_tell_132 rfl (lv_at hl 1 rfl) ?_
  refine va_get (D := G.1) (ci := 4) (v := .ref p) (C := RX4) (T := TX4) (N := 3) hx hb hts inX4_X4_tell hown hG.1 (rk hV0 hVA hS) 0 rfl rfl 1 (by decide) (hts (.fieldLink RX4 19 "InkOverInk" "press" "LInkOverInk$Press;") (by decide +kernel)) (fun _ h9 => h9) rfl dX4_tell_133 ?_
  refine lv_iload_n hx hb dX4_tell_136 rfl (lv_at hl 2 rfl) ?_
  refine k_roV (rest := []) [.int (iI (((n : Nat) : Int)))] ⟨hx, hb, hml, hown, hts⟩ (c_X1_cellsOf lM G p sa qo qi qs qp qh ((wk3 AC DN cr rw cm 1 (wk2 WT tr 1 (wk1 (dPic OR SH SV rw cm ly ly) 1 s))).2.2.2) ((wk3 AC DN cr rw cm 1 (wk2 WT tr 1 (wk1 (dPic OR SH SV rw cm ly ly) 1 s))).1.1) ((n : Nat) : Int) (by omega) oW.2.1) (cwV 1 hts gX4_tell_X1_cellsOf rfl rfl rfl (by decide +kernel) ⟨Nat.le_of_ble_eq_true rfl, Nat.le_of_ble_eq_true rfl⟩) hG (va_recv hG.1 hP (ci := 1) (q0 := 0) rfl rfl) (hP.sub (ws' := [(p, .inr (1, [.ref sa, .ref qo, .ref qi, .ref qs, .ref qp, .ref qh, .int (iI (((((wk3 AC DN cr rw cm 1 (wk2 WT tr 1 (wk1 (dPic OR SH SV rw cm ly ly) 1 s))).2.2.2) : Nat) : Int)))])), (sa, .inl (G.2 0, 256, .inl (fun iX => iI (((wk3 AC DN cr rw cm 1 (wk2 WT tr 1 (wk1 (dPic OR SH SV rw cm ly ly) 1 s))).1.1) iX))))]) [0, 1] rfl) rfl rfl hl.1 (Nat.le_of_ble_eq_true rfl) ⟨Nat.zero_le _, Nat.zero_le _⟩ dX4_tell_137 ?_
  exact rw_iret (a := ((cntE ((wk3 AC DN cr rw cm 1 (wk2 WT tr 1 (wk1 (dPic OR SH SV rw cm ly ly) 1 s))).1.1) ((n : Nat) : Int) 256 : Nat) : Int)) hx hb hr hlocks hP hD hS dX4_tell_140 (⟨rfl, rfl⟩)

set_option maxHeartbeats 4000000 in
set_option maxRecDepth 100000 in
theorem c_X4_tell_0 (lM : Launch) (G : GG) (x im : Nat) (t rw cm tr : Nat) (cr : Int) (ly md aw ad ac ao ax : Nat) (p : Nat) (SH : Nat → Option Nat) (n y : Nat) (kd : Nat) (tp lf : Int) (ht wt cl : Nat) (fn : Bool) (h1 : SH n = some y) (h2 : n < 30) : Met lM yX4_tell wsX4_tell rmX4_tell (ro G [.ref x, .int (iI (((n : Nat) : Int))), .int (iI (0))] [(x, .inr (4, [.ref t, .ref p, .ref im])), (t, .inr (3, [.int (iI (((rw : Nat) : Int))), .int (iI (((cm : Nat) : Int))), .int (iI (((tr : Nat) : Int))), .int (iI (cr)), .int (iI (((ly : Nat) : Int))), .int (iI (((md : Nat) : Int))), .ref aw, .ref ad, .ref ac, .ref ao, .ref ax])), (ax, .inl (G.2 2, 30, .inr (.inr (.inr (.inr SH))))), (y, .inr (2, [.int (iI (((kd : Nat) : Int))), .int (iI (tp)), .int (iI (lf)), .int (iI (((ht : Nat) : Int))), .int (iI (((wt : Nat) : Int))), .int (iI (((cl : Nat) : Int))), .int (iI (b2i fn))]))]) (roQ (.int (iI (((kd : Nat) : Int))))) 0 0 (fun _ => False) := by
  refine ro_of (cc := cX4_tell) (maxL := 4) (ret := (some .int)) (by decide) rfl (Nat.le_of_ble_eq_true rfl) ?_
  intro pM eM sM mM bM tM cM hx hb hr hts hown hlocks hml hG hP ls hl
  have hown : sM.vm.findClass RX4 = some mM.cls := hown
  have hl : lv_has ls 4 [(0, .ref x), (1, .int (iI (((n : Nat) : Int)))), (2, .int (iI (0)))] := hl
  refine lv_aload_n hx hb dX4_tell_0 rfl (lv_at hl 0 rfl) ?_
  refine va_get (D := G.1) (ci := 4) (v := .ref t) (C := RX4) (T := TX4) (N := 3) hx hb hts inX4_X4_tell hown hG.1 hP 0 rfl rfl 0 (by decide) (hts (.fieldLink RX4 10 "InkOverInk" "now" "LInkOverInk$Sheet;") (by decide +kernel)) (fun _ h9 => h9) rfl dX4_tell_1 ?_
  refine lv_iload_n hx hb dX4_tell_4 rfl (lv_at hl 1 rfl) ?_
  refine k_roV (rest := []) [.int (iI (((n : Nat) : Int)))] ⟨hx, hb, hml, hown, hts⟩ (c_X3_find lM G t rw cm tr cr ly md aw ad ac ao ax SH ((n : Nat) : Int) (by omega)) (cwV 1 hts gX4_tell_X3_find rfl rfl rfl (by decide +kernel) ⟨Nat.le_of_ble_eq_true rfl, Nat.le_of_ble_eq_true rfl⟩) hG (va_recv hG.1 hP (ci := 3) (q0 := 1) rfl rfl) (hP.sub (ws' := [(t, .inr (3, [.int (iI (((rw : Nat) : Int))), .int (iI (((cm : Nat) : Int))), .int (iI (((tr : Nat) : Int))), .int (iI (cr)), .int (iI (((ly : Nat) : Int))), .int (iI (((md : Nat) : Int))), .ref aw, .ref ad, .ref ac, .ref ao, .ref ax])), (ax, .inl (G.2 2, 30, .inr (.inr (.inr (.inr SH)))))]) [1, 2] rfl) rfl rfl hl.1 (Nat.le_of_ble_eq_true rfl) ⟨Nat.zero_le _, Nat.zero_le _⟩ dX4_tell_5 ?_
  have eo : (if 0 ≤ ((n : Nat) : Int) ∧ ((n : Nat) : Int) ≤ 29 then SH (((n : Nat) : Int)).toNat else none) = some y := by rw [if_pos (by omega)]; exact h1
  rw [eo]
  refine lv_astore_n (lv' := [(3, .ref y), (0, .ref x), (1, .int (iI (((n : Nat) : Int)))), (2, .int (iI (0)))]) hx hb dX4_tell_8 rfl hl (by decide) rfl (fun ls hl => ?_)
  refine lv_aload_n hx hb dX4_tell_9 rfl (lv_at hl 0 rfl) ?_
  refine lv_ifnonnull (tgt := 15) hx hb dX4_tell_10 (by decide) ?_
  refine lv_iload_n hx hb dX4_tell_15 rfl (lv_at hl 3 rfl) ?_
  refine k_tableIn (z := 0) (v := 0) (off := 52) (tgt := 68) hx hb rfl dX4_tell_16 (by decide) (by decide) (by decide) ?_
  refine lv_aload_n hx hb dX4_tell_68 rfl (lv_at hl 0 rfl) ?_
  refine va_get (D := G.1) (ci := 2) (v := .int (iI (((kd : Nat) : Int)))) (C := RX2) (T := TX2) (N := 7) hx hb hts inX2_X4_tell hown hG.1 hP 3 rfl rfl 0 (by decide) (hts (.fieldLink RX4 88 "InkOverInk$Shape" "kind" "I") (by decide +kernel)) (fun _ h9 => h9) rfl dX4_tell_69 ?_
  exact ro_iret (a := ((kd : Nat) : Int)) hx hb hr hlocks dX4_tell_72 (rfl)

set_option maxHeartbeats 4000000 in
set_option maxRecDepth 100000 in
theorem c_X4_tell_1 (lM : Launch) (G : GG) (x im : Nat) (t rw cm tr : Nat) (cr : Int) (ly md aw ad ac ao ax : Nat) (p : Nat) (SH : Nat → Option Nat) (n y : Nat) (kd : Nat) (tp lf : Int) (ht wt cl : Nat) (fn : Bool) (h1 : SH n = some y) (h2 : n < 30) : Met lM yX4_tell wsX4_tell rmX4_tell (ro G [.ref x, .int (iI (((n : Nat) : Int))), .int (iI (1))] [(x, .inr (4, [.ref t, .ref p, .ref im])), (t, .inr (3, [.int (iI (((rw : Nat) : Int))), .int (iI (((cm : Nat) : Int))), .int (iI (((tr : Nat) : Int))), .int (iI (cr)), .int (iI (((ly : Nat) : Int))), .int (iI (((md : Nat) : Int))), .ref aw, .ref ad, .ref ac, .ref ao, .ref ax])), (ax, .inl (G.2 2, 30, .inr (.inr (.inr (.inr SH))))), (y, .inr (2, [.int (iI (((kd : Nat) : Int))), .int (iI (tp)), .int (iI (lf)), .int (iI (((ht : Nat) : Int))), .int (iI (((wt : Nat) : Int))), .int (iI (((cl : Nat) : Int))), .int (iI (b2i fn))]))]) (roQ (.int (iI (tp)))) 0 0 (fun _ => False) := by
  refine ro_of (cc := cX4_tell) (maxL := 4) (ret := (some .int)) (by decide) rfl (Nat.le_of_ble_eq_true rfl) ?_
  intro pM eM sM mM bM tM cM hx hb hr hts hown hlocks hml hG hP ls hl
  have hown : sM.vm.findClass RX4 = some mM.cls := hown
  have hl : lv_has ls 4 [(0, .ref x), (1, .int (iI (((n : Nat) : Int)))), (2, .int (iI (1)))] := hl
  refine lv_aload_n hx hb dX4_tell_0 rfl (lv_at hl 0 rfl) ?_
  refine va_get (D := G.1) (ci := 4) (v := .ref t) (C := RX4) (T := TX4) (N := 3) hx hb hts inX4_X4_tell hown hG.1 hP 0 rfl rfl 0 (by decide) (hts (.fieldLink RX4 10 "InkOverInk" "now" "LInkOverInk$Sheet;") (by decide +kernel)) (fun _ h9 => h9) rfl dX4_tell_1 ?_
  refine lv_iload_n hx hb dX4_tell_4 rfl (lv_at hl 1 rfl) ?_
  refine k_roV (rest := []) [.int (iI (((n : Nat) : Int)))] ⟨hx, hb, hml, hown, hts⟩ (c_X3_find lM G t rw cm tr cr ly md aw ad ac ao ax SH ((n : Nat) : Int) (by omega)) (cwV 1 hts gX4_tell_X3_find rfl rfl rfl (by decide +kernel) ⟨Nat.le_of_ble_eq_true rfl, Nat.le_of_ble_eq_true rfl⟩) hG (va_recv hG.1 hP (ci := 3) (q0 := 1) rfl rfl) (hP.sub (ws' := [(t, .inr (3, [.int (iI (((rw : Nat) : Int))), .int (iI (((cm : Nat) : Int))), .int (iI (((tr : Nat) : Int))), .int (iI (cr)), .int (iI (((ly : Nat) : Int))), .int (iI (((md : Nat) : Int))), .ref aw, .ref ad, .ref ac, .ref ao, .ref ax])), (ax, .inl (G.2 2, 30, .inr (.inr (.inr (.inr SH)))))]) [1, 2] rfl) rfl rfl hl.1 (Nat.le_of_ble_eq_true rfl) ⟨Nat.zero_le _, Nat.zero_le _⟩ dX4_tell_5 ?_
  have eo : (if 0 ≤ ((n : Nat) : Int) ∧ ((n : Nat) : Int) ≤ 29 then SH (((n : Nat) : Int)).toNat else none) = some y := by rw [if_pos (by omega)]; exact h1
  rw [eo]
  refine lv_astore_n (lv' := [(3, .ref y), (0, .ref x), (1, .int (iI (((n : Nat) : Int)))), (2, .int (iI (1)))]) hx hb dX4_tell_8 rfl hl (by decide) rfl (fun ls hl => ?_)
  refine lv_aload_n hx hb dX4_tell_9 rfl (lv_at hl 0 rfl) ?_
  refine lv_ifnonnull (tgt := 15) hx hb dX4_tell_10 (by decide) ?_
  refine lv_iload_n hx hb dX4_tell_15 rfl (lv_at hl 3 rfl) ?_
  refine k_tableIn (z := 1) (v := 1) (off := 57) (tgt := 73) hx hb rfl dX4_tell_16 (by decide) (by decide) (by decide) ?_
  refine lv_aload_n hx hb dX4_tell_73 rfl (lv_at hl 0 rfl) ?_
  refine va_get (D := G.1) (ci := 2) (v := .int (iI (tp))) (C := RX2) (T := TX2) (N := 7) hx hb hts inX2_X4_tell hown hG.1 hP 3 rfl rfl 1 (by decide) (hts (.fieldLink RX4 91 "InkOverInk$Shape" "row" "I") (by decide +kernel)) (fun _ h9 => h9) rfl dX4_tell_74 ?_
  exact ro_iret (a := tp) hx hb hr hlocks dX4_tell_77 (rfl)

set_option maxHeartbeats 4000000 in
set_option maxRecDepth 100000 in
theorem c_X4_tell_2 (lM : Launch) (G : GG) (x im : Nat) (t rw cm tr : Nat) (cr : Int) (ly md aw ad ac ao ax : Nat) (p : Nat) (SH : Nat → Option Nat) (n y : Nat) (kd : Nat) (tp lf : Int) (ht wt cl : Nat) (fn : Bool) (h1 : SH n = some y) (h2 : n < 30) : Met lM yX4_tell wsX4_tell rmX4_tell (ro G [.ref x, .int (iI (((n : Nat) : Int))), .int (iI (2))] [(x, .inr (4, [.ref t, .ref p, .ref im])), (t, .inr (3, [.int (iI (((rw : Nat) : Int))), .int (iI (((cm : Nat) : Int))), .int (iI (((tr : Nat) : Int))), .int (iI (cr)), .int (iI (((ly : Nat) : Int))), .int (iI (((md : Nat) : Int))), .ref aw, .ref ad, .ref ac, .ref ao, .ref ax])), (ax, .inl (G.2 2, 30, .inr (.inr (.inr (.inr SH))))), (y, .inr (2, [.int (iI (((kd : Nat) : Int))), .int (iI (tp)), .int (iI (lf)), .int (iI (((ht : Nat) : Int))), .int (iI (((wt : Nat) : Int))), .int (iI (((cl : Nat) : Int))), .int (iI (b2i fn))]))]) (roQ (.int (iI (lf)))) 0 0 (fun _ => False) := by
  refine ro_of (cc := cX4_tell) (maxL := 4) (ret := (some .int)) (by decide) rfl (Nat.le_of_ble_eq_true rfl) ?_
  intro pM eM sM mM bM tM cM hx hb hr hts hown hlocks hml hG hP ls hl
  have hown : sM.vm.findClass RX4 = some mM.cls := hown
  have hl : lv_has ls 4 [(0, .ref x), (1, .int (iI (((n : Nat) : Int)))), (2, .int (iI (2)))] := hl
  refine lv_aload_n hx hb dX4_tell_0 rfl (lv_at hl 0 rfl) ?_
  refine va_get (D := G.1) (ci := 4) (v := .ref t) (C := RX4) (T := TX4) (N := 3) hx hb hts inX4_X4_tell hown hG.1 hP 0 rfl rfl 0 (by decide) (hts (.fieldLink RX4 10 "InkOverInk" "now" "LInkOverInk$Sheet;") (by decide +kernel)) (fun _ h9 => h9) rfl dX4_tell_1 ?_
  refine lv_iload_n hx hb dX4_tell_4 rfl (lv_at hl 1 rfl) ?_
  refine k_roV (rest := []) [.int (iI (((n : Nat) : Int)))] ⟨hx, hb, hml, hown, hts⟩ (c_X3_find lM G t rw cm tr cr ly md aw ad ac ao ax SH ((n : Nat) : Int) (by omega)) (cwV 1 hts gX4_tell_X3_find rfl rfl rfl (by decide +kernel) ⟨Nat.le_of_ble_eq_true rfl, Nat.le_of_ble_eq_true rfl⟩) hG (va_recv hG.1 hP (ci := 3) (q0 := 1) rfl rfl) (hP.sub (ws' := [(t, .inr (3, [.int (iI (((rw : Nat) : Int))), .int (iI (((cm : Nat) : Int))), .int (iI (((tr : Nat) : Int))), .int (iI (cr)), .int (iI (((ly : Nat) : Int))), .int (iI (((md : Nat) : Int))), .ref aw, .ref ad, .ref ac, .ref ao, .ref ax])), (ax, .inl (G.2 2, 30, .inr (.inr (.inr (.inr SH)))))]) [1, 2] rfl) rfl rfl hl.1 (Nat.le_of_ble_eq_true rfl) ⟨Nat.zero_le _, Nat.zero_le _⟩ dX4_tell_5 ?_
  have eo : (if 0 ≤ ((n : Nat) : Int) ∧ ((n : Nat) : Int) ≤ 29 then SH (((n : Nat) : Int)).toNat else none) = some y := by rw [if_pos (by omega)]; exact h1
  rw [eo]
  refine lv_astore_n (lv' := [(3, .ref y), (0, .ref x), (1, .int (iI (((n : Nat) : Int)))), (2, .int (iI (2)))]) hx hb dX4_tell_8 rfl hl (by decide) rfl (fun ls hl => ?_)
  refine lv_aload_n hx hb dX4_tell_9 rfl (lv_at hl 0 rfl) ?_
  refine lv_ifnonnull (tgt := 15) hx hb dX4_tell_10 (by decide) ?_
  refine lv_iload_n hx hb dX4_tell_15 rfl (lv_at hl 3 rfl) ?_
  refine k_tableIn (z := 2) (v := 2) (off := 62) (tgt := 78) hx hb rfl dX4_tell_16 (by decide) (by decide) (by decide) ?_
  refine lv_aload_n hx hb dX4_tell_78 rfl (lv_at hl 0 rfl) ?_
  refine va_get (D := G.1) (ci := 2) (v := .int (iI (lf))) (C := RX2) (T := TX2) (N := 7) hx hb hts inX2_X4_tell hown hG.1 hP 3 rfl rfl 2 (by decide) (hts (.fieldLink RX4 94 "InkOverInk$Shape" "column" "I") (by decide +kernel)) (fun _ h9 => h9) rfl dX4_tell_79 ?_
  exact ro_iret (a := lf) hx hb hr hlocks dX4_tell_82 (rfl)

set_option maxHeartbeats 4000000 in
set_option maxRecDepth 100000 in
theorem c_X4_tell_3 (lM : Launch) (G : GG) (x im : Nat) (t rw cm tr : Nat) (cr : Int) (ly md aw ad ac ao ax : Nat) (p : Nat) (SH : Nat → Option Nat) (n y : Nat) (kd : Nat) (tp lf : Int) (ht wt cl : Nat) (fn : Bool) (h1 : SH n = some y) (h2 : n < 30) : Met lM yX4_tell wsX4_tell rmX4_tell (ro G [.ref x, .int (iI (((n : Nat) : Int))), .int (iI (3))] [(x, .inr (4, [.ref t, .ref p, .ref im])), (t, .inr (3, [.int (iI (((rw : Nat) : Int))), .int (iI (((cm : Nat) : Int))), .int (iI (((tr : Nat) : Int))), .int (iI (cr)), .int (iI (((ly : Nat) : Int))), .int (iI (((md : Nat) : Int))), .ref aw, .ref ad, .ref ac, .ref ao, .ref ax])), (ax, .inl (G.2 2, 30, .inr (.inr (.inr (.inr SH))))), (y, .inr (2, [.int (iI (((kd : Nat) : Int))), .int (iI (tp)), .int (iI (lf)), .int (iI (((ht : Nat) : Int))), .int (iI (((wt : Nat) : Int))), .int (iI (((cl : Nat) : Int))), .int (iI (b2i fn))]))]) (roQ (.int (iI (((ht : Nat) : Int))))) 0 0 (fun _ => False) := by
  refine ro_of (cc := cX4_tell) (maxL := 4) (ret := (some .int)) (by decide) rfl (Nat.le_of_ble_eq_true rfl) ?_
  intro pM eM sM mM bM tM cM hx hb hr hts hown hlocks hml hG hP ls hl
  have hown : sM.vm.findClass RX4 = some mM.cls := hown
  have hl : lv_has ls 4 [(0, .ref x), (1, .int (iI (((n : Nat) : Int)))), (2, .int (iI (3)))] := hl
  refine lv_aload_n hx hb dX4_tell_0 rfl (lv_at hl 0 rfl) ?_
  refine va_get (D := G.1) (ci := 4) (v := .ref t) (C := RX4) (T := TX4) (N := 3) hx hb hts inX4_X4_tell hown hG.1 hP 0 rfl rfl 0 (by decide) (hts (.fieldLink RX4 10 "InkOverInk" "now" "LInkOverInk$Sheet;") (by decide +kernel)) (fun _ h9 => h9) rfl dX4_tell_1 ?_
  refine lv_iload_n hx hb dX4_tell_4 rfl (lv_at hl 1 rfl) ?_
  refine k_roV (rest := []) [.int (iI (((n : Nat) : Int)))] ⟨hx, hb, hml, hown, hts⟩ (c_X3_find lM G t rw cm tr cr ly md aw ad ac ao ax SH ((n : Nat) : Int) (by omega)) (cwV 1 hts gX4_tell_X3_find rfl rfl rfl (by decide +kernel) ⟨Nat.le_of_ble_eq_true rfl, Nat.le_of_ble_eq_true rfl⟩) hG (va_recv hG.1 hP (ci := 3) (q0 := 1) rfl rfl) (hP.sub (ws' := [(t, .inr (3, [.int (iI (((rw : Nat) : Int))), .int (iI (((cm : Nat) : Int))), .int (iI (((tr : Nat) : Int))), .int (iI (cr)), .int (iI (((ly : Nat) : Int))), .int (iI (((md : Nat) : Int))), .ref aw, .ref ad, .ref ac, .ref ao, .ref ax])), (ax, .inl (G.2 2, 30, .inr (.inr (.inr (.inr SH)))))]) [1, 2] rfl) rfl rfl hl.1 (Nat.le_of_ble_eq_true rfl) ⟨Nat.zero_le _, Nat.zero_le _⟩ dX4_tell_5 ?_
  have eo : (if 0 ≤ ((n : Nat) : Int) ∧ ((n : Nat) : Int) ≤ 29 then SH (((n : Nat) : Int)).toNat else none) = some y := by rw [if_pos (by omega)]; exact h1
  rw [eo]
  refine lv_astore_n (lv' := [(3, .ref y), (0, .ref x), (1, .int (iI (((n : Nat) : Int)))), (2, .int (iI (3)))]) hx hb dX4_tell_8 rfl hl (by decide) rfl (fun ls hl => ?_)
  refine lv_aload_n hx hb dX4_tell_9 rfl (lv_at hl 0 rfl) ?_
  refine lv_ifnonnull (tgt := 15) hx hb dX4_tell_10 (by decide) ?_
  refine lv_iload_n hx hb dX4_tell_15 rfl (lv_at hl 3 rfl) ?_
  refine k_tableIn (z := 3) (v := 3) (off := 67) (tgt := 83) hx hb rfl dX4_tell_16 (by decide) (by decide) (by decide) ?_
  refine lv_aload_n hx hb dX4_tell_83 rfl (lv_at hl 0 rfl) ?_
  refine va_get (D := G.1) (ci := 2) (v := .int (iI (((ht : Nat) : Int)))) (C := RX2) (T := TX2) (N := 7) hx hb hts inX2_X4_tell hown hG.1 hP 3 rfl rfl 3 (by decide) (hts (.fieldLink RX4 97 "InkOverInk$Shape" "height" "I") (by decide +kernel)) (fun _ h9 => h9) rfl dX4_tell_84 ?_
  exact ro_iret (a := ((ht : Nat) : Int)) hx hb hr hlocks dX4_tell_87 (rfl)

set_option maxHeartbeats 4000000 in
set_option maxRecDepth 100000 in
theorem c_X4_tell_4 (lM : Launch) (G : GG) (x im : Nat) (t rw cm tr : Nat) (cr : Int) (ly md aw ad ac ao ax : Nat) (p : Nat) (SH : Nat → Option Nat) (n y : Nat) (kd : Nat) (tp lf : Int) (ht wt cl : Nat) (fn : Bool) (h1 : SH n = some y) (h2 : n < 30) : Met lM yX4_tell wsX4_tell rmX4_tell (ro G [.ref x, .int (iI (((n : Nat) : Int))), .int (iI (4))] [(x, .inr (4, [.ref t, .ref p, .ref im])), (t, .inr (3, [.int (iI (((rw : Nat) : Int))), .int (iI (((cm : Nat) : Int))), .int (iI (((tr : Nat) : Int))), .int (iI (cr)), .int (iI (((ly : Nat) : Int))), .int (iI (((md : Nat) : Int))), .ref aw, .ref ad, .ref ac, .ref ao, .ref ax])), (ax, .inl (G.2 2, 30, .inr (.inr (.inr (.inr SH))))), (y, .inr (2, [.int (iI (((kd : Nat) : Int))), .int (iI (tp)), .int (iI (lf)), .int (iI (((ht : Nat) : Int))), .int (iI (((wt : Nat) : Int))), .int (iI (((cl : Nat) : Int))), .int (iI (b2i fn))]))]) (roQ (.int (iI (((wt : Nat) : Int))))) 0 0 (fun _ => False) := by
  refine ro_of (cc := cX4_tell) (maxL := 4) (ret := (some .int)) (by decide) rfl (Nat.le_of_ble_eq_true rfl) ?_
  intro pM eM sM mM bM tM cM hx hb hr hts hown hlocks hml hG hP ls hl
  have hown : sM.vm.findClass RX4 = some mM.cls := hown
  have hl : lv_has ls 4 [(0, .ref x), (1, .int (iI (((n : Nat) : Int)))), (2, .int (iI (4)))] := hl
  refine lv_aload_n hx hb dX4_tell_0 rfl (lv_at hl 0 rfl) ?_
  refine va_get (D := G.1) (ci := 4) (v := .ref t) (C := RX4) (T := TX4) (N := 3) hx hb hts inX4_X4_tell hown hG.1 hP 0 rfl rfl 0 (by decide) (hts (.fieldLink RX4 10 "InkOverInk" "now" "LInkOverInk$Sheet;") (by decide +kernel)) (fun _ h9 => h9) rfl dX4_tell_1 ?_
  refine lv_iload_n hx hb dX4_tell_4 rfl (lv_at hl 1 rfl) ?_
  refine k_roV (rest := []) [.int (iI (((n : Nat) : Int)))] ⟨hx, hb, hml, hown, hts⟩ (c_X3_find lM G t rw cm tr cr ly md aw ad ac ao ax SH ((n : Nat) : Int) (by omega)) (cwV 1 hts gX4_tell_X3_find rfl rfl rfl (by decide +kernel) ⟨Nat.le_of_ble_eq_true rfl, Nat.le_of_ble_eq_true rfl⟩) hG (va_recv hG.1 hP (ci := 3) (q0 := 1) rfl rfl) (hP.sub (ws' := [(t, .inr (3, [.int (iI (((rw : Nat) : Int))), .int (iI (((cm : Nat) : Int))), .int (iI (((tr : Nat) : Int))), .int (iI (cr)), .int (iI (((ly : Nat) : Int))), .int (iI (((md : Nat) : Int))), .ref aw, .ref ad, .ref ac, .ref ao, .ref ax])), (ax, .inl (G.2 2, 30, .inr (.inr (.inr (.inr SH)))))]) [1, 2] rfl) rfl rfl hl.1 (Nat.le_of_ble_eq_true rfl) ⟨Nat.zero_le _, Nat.zero_le _⟩ dX4_tell_5 ?_
  have eo : (if 0 ≤ ((n : Nat) : Int) ∧ ((n : Nat) : Int) ≤ 29 then SH (((n : Nat) : Int)).toNat else none) = some y := by rw [if_pos (by omega)]; exact h1
  rw [eo]
  refine lv_astore_n (lv' := [(3, .ref y), (0, .ref x), (1, .int (iI (((n : Nat) : Int)))), (2, .int (iI (4)))]) hx hb dX4_tell_8 rfl hl (by decide) rfl (fun ls hl => ?_)
  refine lv_aload_n hx hb dX4_tell_9 rfl (lv_at hl 0 rfl) ?_
  refine lv_ifnonnull (tgt := 15) hx hb dX4_tell_10 (by decide) ?_
  refine lv_iload_n hx hb dX4_tell_15 rfl (lv_at hl 3 rfl) ?_
  refine k_tableIn (z := 4) (v := 4) (off := 72) (tgt := 88) hx hb rfl dX4_tell_16 (by decide) (by decide) (by decide) ?_
  refine lv_aload_n hx hb dX4_tell_88 rfl (lv_at hl 0 rfl) ?_
  refine va_get (D := G.1) (ci := 2) (v := .int (iI (((wt : Nat) : Int)))) (C := RX2) (T := TX2) (N := 7) hx hb hts inX2_X4_tell hown hG.1 hP 3 rfl rfl 4 (by decide) (hts (.fieldLink RX4 100 "InkOverInk$Shape" "width" "I") (by decide +kernel)) (fun _ h9 => h9) rfl dX4_tell_89 ?_
  exact ro_iret (a := ((wt : Nat) : Int)) hx hb hr hlocks dX4_tell_92 (rfl)

set_option maxHeartbeats 4000000 in
set_option maxRecDepth 100000 in
theorem c_X4_tell_5 (lM : Launch) (G : GG) (x im : Nat) (t rw cm tr : Nat) (cr : Int) (ly md aw ad ac ao ax : Nat) (p : Nat) (SH : Nat → Option Nat) (n y : Nat) (kd : Nat) (tp lf : Int) (ht wt cl : Nat) (fn : Bool) (h1 : SH n = some y) (h2 : n < 30) : Met lM yX4_tell wsX4_tell rmX4_tell (ro G [.ref x, .int (iI (((n : Nat) : Int))), .int (iI (5))] [(x, .inr (4, [.ref t, .ref p, .ref im])), (t, .inr (3, [.int (iI (((rw : Nat) : Int))), .int (iI (((cm : Nat) : Int))), .int (iI (((tr : Nat) : Int))), .int (iI (cr)), .int (iI (((ly : Nat) : Int))), .int (iI (((md : Nat) : Int))), .ref aw, .ref ad, .ref ac, .ref ao, .ref ax])), (ax, .inl (G.2 2, 30, .inr (.inr (.inr (.inr SH))))), (y, .inr (2, [.int (iI (((kd : Nat) : Int))), .int (iI (tp)), .int (iI (lf)), .int (iI (((ht : Nat) : Int))), .int (iI (((wt : Nat) : Int))), .int (iI (((cl : Nat) : Int))), .int (iI (b2i fn))]))]) (roQ (.int (iI (((cl : Nat) : Int))))) 0 0 (fun _ => False) := by
  refine ro_of (cc := cX4_tell) (maxL := 4) (ret := (some .int)) (by decide) rfl (Nat.le_of_ble_eq_true rfl) ?_
  intro pM eM sM mM bM tM cM hx hb hr hts hown hlocks hml hG hP ls hl
  have hown : sM.vm.findClass RX4 = some mM.cls := hown
  have hl : lv_has ls 4 [(0, .ref x), (1, .int (iI (((n : Nat) : Int)))), (2, .int (iI (5)))] := hl
  refine lv_aload_n hx hb dX4_tell_0 rfl (lv_at hl 0 rfl) ?_
  refine va_get (D := G.1) (ci := 4) (v := .ref t) (C := RX4) (T := TX4) (N := 3) hx hb hts inX4_X4_tell hown hG.1 hP 0 rfl rfl 0 (by decide) (hts (.fieldLink RX4 10 "InkOverInk" "now" "LInkOverInk$Sheet;") (by decide +kernel)) (fun _ h9 => h9) rfl dX4_tell_1 ?_
  refine lv_iload_n hx hb dX4_tell_4 rfl (lv_at hl 1 rfl) ?_
  refine k_roV (rest := []) [.int (iI (((n : Nat) : Int)))] ⟨hx, hb, hml, hown, hts⟩ (c_X3_find lM G t rw cm tr cr ly md aw ad ac ao ax SH ((n : Nat) : Int) (by omega)) (cwV 1 hts gX4_tell_X3_find rfl rfl rfl (by decide +kernel) ⟨Nat.le_of_ble_eq_true rfl, Nat.le_of_ble_eq_true rfl⟩) hG (va_recv hG.1 hP (ci := 3) (q0 := 1) rfl rfl) (hP.sub (ws' := [(t, .inr (3, [.int (iI (((rw : Nat) : Int))), .int (iI (((cm : Nat) : Int))), .int (iI (((tr : Nat) : Int))), .int (iI (cr)), .int (iI (((ly : Nat) : Int))), .int (iI (((md : Nat) : Int))), .ref aw, .ref ad, .ref ac, .ref ao, .ref ax])), (ax, .inl (G.2 2, 30, .inr (.inr (.inr (.inr SH)))))]) [1, 2] rfl) rfl rfl hl.1 (Nat.le_of_ble_eq_true rfl) ⟨Nat.zero_le _, Nat.zero_le _⟩ dX4_tell_5 ?_
  have eo : (if 0 ≤ ((n : Nat) : Int) ∧ ((n : Nat) : Int) ≤ 29 then SH (((n : Nat) : Int)).toNat else none) = some y := by rw [if_pos (by omega)]; exact h1
  rw [eo]
  refine lv_astore_n (lv' := [(3, .ref y), (0, .ref x), (1, .int (iI (((n : Nat) : Int)))), (2, .int (iI (5)))]) hx hb dX4_tell_8 rfl hl (by decide) rfl (fun ls hl => ?_)
  refine lv_aload_n hx hb dX4_tell_9 rfl (lv_at hl 0 rfl) ?_
  refine lv_ifnonnull (tgt := 15) hx hb dX4_tell_10 (by decide) ?_
  refine lv_iload_n hx hb dX4_tell_15 rfl (lv_at hl 3 rfl) ?_
  refine k_tableIn (z := 5) (v := 5) (off := 77) (tgt := 93) hx hb rfl dX4_tell_16 (by decide) (by decide) (by decide) ?_
  refine lv_aload_n hx hb dX4_tell_93 rfl (lv_at hl 0 rfl) ?_
  refine va_get (D := G.1) (ci := 2) (v := .int (iI (((cl : Nat) : Int)))) (C := RX2) (T := TX2) (N := 7) hx hb hts inX2_X4_tell hown hG.1 hP 3 rfl rfl 5 (by decide) (hts (.fieldLink RX4 103 "InkOverInk$Shape" "colour" "I") (by decide +kernel)) (fun _ h9 => h9) rfl dX4_tell_94 ?_
  exact ro_iret (a := ((cl : Nat) : Int)) hx hb hr hlocks dX4_tell_97 (rfl)

set_option maxHeartbeats 4000000 in
set_option maxRecDepth 100000 in
theorem c_X4_tell_6 (lM : Launch) (G : GG) (x im : Nat) (t rw cm tr : Nat) (cr : Int) (ly md aw ad ac ao ax : Nat) (p : Nat) (SH : Nat → Option Nat) (n y : Nat) (kd : Nat) (tp lf : Int) (ht wt cl : Nat) (fn : Bool) (h1 : SH n = some y) (h2 : n < 30) : Met lM yX4_tell wsX4_tell rmX4_tell (ro G [.ref x, .int (iI (((n : Nat) : Int))), .int (iI (6))] [(x, .inr (4, [.ref t, .ref p, .ref im])), (t, .inr (3, [.int (iI (((rw : Nat) : Int))), .int (iI (((cm : Nat) : Int))), .int (iI (((tr : Nat) : Int))), .int (iI (cr)), .int (iI (((ly : Nat) : Int))), .int (iI (((md : Nat) : Int))), .ref aw, .ref ad, .ref ac, .ref ao, .ref ax])), (ax, .inl (G.2 2, 30, .inr (.inr (.inr (.inr SH))))), (y, .inr (2, [.int (iI (((kd : Nat) : Int))), .int (iI (tp)), .int (iI (lf)), .int (iI (((ht : Nat) : Int))), .int (iI (((wt : Nat) : Int))), .int (iI (((cl : Nat) : Int))), .int (iI (b2i fn))]))]) (roQ (.int (iI (b2i fn)))) 0 0 (fun _ => False) := by
  refine ro_of (cc := cX4_tell) (maxL := 4) (ret := (some .int)) (by decide) rfl (Nat.le_of_ble_eq_true rfl) ?_
  intro pM eM sM mM bM tM cM hx hb hr hts hown hlocks hml hG hP ls hl
  have hown : sM.vm.findClass RX4 = some mM.cls := hown
  have hl : lv_has ls 4 [(0, .ref x), (1, .int (iI (((n : Nat) : Int)))), (2, .int (iI (6)))] := hl
  refine lv_aload_n hx hb dX4_tell_0 rfl (lv_at hl 0 rfl) ?_
  refine va_get (D := G.1) (ci := 4) (v := .ref t) (C := RX4) (T := TX4) (N := 3) hx hb hts inX4_X4_tell hown hG.1 hP 0 rfl rfl 0 (by decide) (hts (.fieldLink RX4 10 "InkOverInk" "now" "LInkOverInk$Sheet;") (by decide +kernel)) (fun _ h9 => h9) rfl dX4_tell_1 ?_
  refine lv_iload_n hx hb dX4_tell_4 rfl (lv_at hl 1 rfl) ?_
  refine k_roV (rest := []) [.int (iI (((n : Nat) : Int)))] ⟨hx, hb, hml, hown, hts⟩ (c_X3_find lM G t rw cm tr cr ly md aw ad ac ao ax SH ((n : Nat) : Int) (by omega)) (cwV 1 hts gX4_tell_X3_find rfl rfl rfl (by decide +kernel) ⟨Nat.le_of_ble_eq_true rfl, Nat.le_of_ble_eq_true rfl⟩) hG (va_recv hG.1 hP (ci := 3) (q0 := 1) rfl rfl) (hP.sub (ws' := [(t, .inr (3, [.int (iI (((rw : Nat) : Int))), .int (iI (((cm : Nat) : Int))), .int (iI (((tr : Nat) : Int))), .int (iI (cr)), .int (iI (((ly : Nat) : Int))), .int (iI (((md : Nat) : Int))), .ref aw, .ref ad, .ref ac, .ref ao, .ref ax])), (ax, .inl (G.2 2, 30, .inr (.inr (.inr (.inr SH)))))]) [1, 2] rfl) rfl rfl hl.1 (Nat.le_of_ble_eq_true rfl) ⟨Nat.zero_le _, Nat.zero_le _⟩ dX4_tell_5 ?_
  have eo : (if 0 ≤ ((n : Nat) : Int) ∧ ((n : Nat) : Int) ≤ 29 then SH (((n : Nat) : Int)).toNat else none) = some y := by rw [if_pos (by omega)]; exact h1
  rw [eo]
  refine lv_astore_n (lv' := [(3, .ref y), (0, .ref x), (1, .int (iI (((n : Nat) : Int)))), (2, .int (iI (6)))]) hx hb dX4_tell_8 rfl hl (by decide) rfl (fun ls hl => ?_)
  refine lv_aload_n hx hb dX4_tell_9 rfl (lv_at hl 0 rfl) ?_
  refine lv_ifnonnull (tgt := 15) hx hb dX4_tell_10 (by decide) ?_
  refine lv_iload_n hx hb dX4_tell_15 rfl (lv_at hl 3 rfl) ?_
  refine k_tableIn (z := 6) (v := 6) (off := 82) (tgt := 98) hx hb rfl dX4_tell_16 (by decide) (by decide) (by decide) ?_
  refine lv_aload_n hx hb dX4_tell_98 rfl (lv_at hl 0 rfl) ?_
  refine va_get (D := G.1) (ci := 2) (v := .int (iI (b2i fn))) (C := RX2) (T := TX2) (N := 7) hx hb hts inX2_X4_tell hown hG.1 hP 3 rfl rfl 6 (by decide) (hts (.fieldLink RX4 106 "InkOverInk$Shape" "fine" "Z") (by decide +kernel)) (fun _ h9 => h9) rfl dX4_tell_99 ?_
  refine k_ifB (B := fn) (tgt := 109) hx hb dX4_tell_102 (by decide) (fun c_102 => ?_) (fun c_102 => ?_)
  · refine lv_iconst (v := iI (0)) hx hb dX4_tell_109 rfl ?_
    exact ro_iret (a := 0) hx hb hr hlocks dX4_tell_110 (by rw [c_102]; rfl)
  · refine lv_iconst (v := iI (1)) hx hb dX4_tell_105 rfl ?_
    refine lv_goto (tgt := 110) hx hb dX4_tell_106 (by decide) ?_
    exact ro_iret (a := 1) hx hb hr hlocks dX4_tell_110 (by rw [c_102]; rfl)

set_option maxHeartbeats 4000000 in
set_option maxRecDepth 100000 in
theorem c_X4_tell_7 (lM : Launch) (G : GG) (x im : Nat) (t rw cm tr : Nat) (cr : Int) (ly md aw ad ac ao ax : Nat) (p : Nat) (OR : Nat → Nat) (SH : Nat → Option Nat) (n y : Nat) (h1 : SH n = some y) (h2 : n < 30) (h3 : ly ≤ 30) (h4 : ∀ k, OR k < 30) : Met lM yX4_tell wsX4_tell rmX4_tell (ro G [.ref x, .int (iI (((n : Nat) : Int))), .int (iI (7))] [(x, .inr (4, [.ref t, .ref p, .ref im])), (t, .inr (3, [.int (iI (((rw : Nat) : Int))), .int (iI (((cm : Nat) : Int))), .int (iI (((tr : Nat) : Int))), .int (iI (cr)), .int (iI (((ly : Nat) : Int))), .int (iI (((md : Nat) : Int))), .ref aw, .ref ad, .ref ac, .ref ao, .ref ax])), (ao, .inl (G.2 0, 30, .inl (fun iX => iI ((OR iX : Nat) : Int)))), (ax, .inl (G.2 2, 30, .inr (.inr (.inr (.inr SH)))))]) (roQ (.int (iI (plc OR ly ((n : Nat) : Int) ly)))) 0 0 (fun _ => False) := by
  refine ro_of (cc := cX4_tell) (maxL := 4) (ret := (some .int)) (by decide) rfl (Nat.le_of_ble_eq_true rfl) ?_
  intro pM eM sM mM bM tM cM hx hb hr hts hown hlocks hml hG hP ls hl
  have hown : sM.vm.findClass RX4 = some mM.cls := hown
  have hl : lv_has ls 4 [(0, .ref x), (1, .int (iI (((n : Nat) : Int)))), (2, .int (iI (7)))] := hl
  refine lv_aload_n hx hb dX4_tell_0 rfl (lv_at hl 0 rfl) ?_
  refine va_get (D := G.1) (ci := 4) (v := .ref t) (C := RX4) (T := TX4) (N := 3) hx hb hts inX4_X4_tell hown hG.1 hP 0 rfl rfl 0 (by decide) (hts (.fieldLink RX4 10 "InkOverInk" "now" "LInkOverInk$Sheet;") (by decide +kernel)) (fun _ h9 => h9) rfl dX4_tell_1 ?_
  refine lv_iload_n hx hb dX4_tell_4 rfl (lv_at hl 1 rfl) ?_
  refine k_roV (rest := []) [.int (iI (((n : Nat) : Int)))] ⟨hx, hb, hml, hown, hts⟩ (c_X3_find lM G t rw cm tr cr ly md aw ad ac ao ax SH ((n : Nat) : Int) (by omega)) (cwV 1 hts gX4_tell_X3_find rfl rfl rfl (by decide +kernel) ⟨Nat.le_of_ble_eq_true rfl, Nat.le_of_ble_eq_true rfl⟩) hG (va_recv hG.1 hP (ci := 3) (q0 := 1) rfl rfl) (hP.sub (ws' := [(t, .inr (3, [.int (iI (((rw : Nat) : Int))), .int (iI (((cm : Nat) : Int))), .int (iI (((tr : Nat) : Int))), .int (iI (cr)), .int (iI (((ly : Nat) : Int))), .int (iI (((md : Nat) : Int))), .ref aw, .ref ad, .ref ac, .ref ao, .ref ax])), (ax, .inl (G.2 2, 30, .inr (.inr (.inr (.inr SH)))))]) [1, 3] rfl) rfl rfl hl.1 (Nat.le_of_ble_eq_true rfl) ⟨Nat.zero_le _, Nat.zero_le _⟩ dX4_tell_5 ?_
  have eo : (if 0 ≤ ((n : Nat) : Int) ∧ ((n : Nat) : Int) ≤ 29 then SH (((n : Nat) : Int)).toNat else none) = some y := by rw [if_pos (by omega)]; exact h1
  rw [eo]
  refine lv_astore_n (lv' := [(3, .ref y), (0, .ref x), (1, .int (iI (((n : Nat) : Int)))), (2, .int (iI (7)))]) hx hb dX4_tell_8 rfl hl (by decide) rfl (fun ls hl => ?_)
  refine lv_aload_n hx hb dX4_tell_9 rfl (lv_at hl 0 rfl) ?_
  refine lv_ifnonnull (tgt := 15) hx hb dX4_tell_10 (by decide) ?_
  refine lv_iload_n hx hb dX4_tell_15 rfl (lv_at hl 3 rfl) ?_
  refine k_tableIn (z := 7) (v := 7) (off := 95) (tgt := 111) hx hb rfl dX4_tell_16 (by decide) (by decide) (by decide) ?_
  refine lv_aload_n hx hb dX4_tell_111 rfl (lv_at hl 1 rfl) ?_
  refine va_get (D := G.1) (ci := 4) (v := .ref t) (C := RX4) (T := TX4) (N := 3) hx hb hts inX4_X4_tell hown hG.1 hP 0 rfl rfl 0 (by decide) (hts (.fieldLink RX4 10 "InkOverInk" "now" "LInkOverInk$Sheet;") (by decide +kernel)) (fun _ h9 => h9) rfl dX4_tell_112 ?_
  refine lv_iload_n hx hb dX4_tell_115 rfl (lv_at hl 2 rfl) ?_
  refine k_roV (rest := []) [.int (iI (((n : Nat) : Int)))] ⟨hx, hb, hml, hown, hts⟩ (c_X3_placeOf lM G t rw cm tr cr ly md aw ad ac ao ax OR ((n : Nat) : Int) (by omega) (by omega) h4) (cwV 1 hts gX4_tell_X3_placeOf rfl rfl rfl (by decide +kernel) ⟨Nat.le_of_ble_eq_true rfl, Nat.le_of_ble_eq_true rfl⟩) hG (va_recv hG.1 hP (ci := 3) (q0 := 1) rfl rfl) (hP.sub (ws' := [(t, .inr (3, [.int (iI (((rw : Nat) : Int))), .int (iI (((cm : Nat) : Int))), .int (iI (((tr : Nat) : Int))), .int (iI (cr)), .int (iI (((ly : Nat) : Int))), .int (iI (((md : Nat) : Int))), .ref aw, .ref ad, .ref ac, .ref ao, .ref ax])), (ao, .inl (G.2 0, 30, .inl (fun iX => iI ((OR iX : Nat) : Int))))]) [1, 2] rfl) rfl rfl hl.1 (Nat.le_of_ble_eq_true rfl) ⟨Nat.zero_le _, Nat.zero_le _⟩ dX4_tell_116 ?_
  exact ro_iret (a := plc OR ly ((n : Nat) : Int) ly) hx hb hr hlocks dX4_tell_119 (rfl)

set_option maxHeartbeats 4000000 in
set_option maxRecDepth 100000 in
theorem c_X4_tell_N (lM : Launch) (G : GG) (x im : Nat) (t rw cm tr : Nat) (cr : Int) (ly md aw ad ac ao ax : Nat) (p : Nat) (SH : Nat → Option Nat) (n : Int) (v : Int) (h1 : (if 0 ≤ n ∧ n ≤ 29 then SH n.toNat else none) = none) (h2 : -2147483648 ≤ n ∧ n < 2147483648) : Met lM yX4_tell wsX4_tell rmX4_tell (ro G [.ref x, .int (iI (n)), .int (iI (v))] [(x, .inr (4, [.ref t, .ref p, .ref im])), (t, .inr (3, [.int (iI (((rw : Nat) : Int))), .int (iI (((cm : Nat) : Int))), .int (iI (((tr : Nat) : Int))), .int (iI (cr)), .int (iI (((ly : Nat) : Int))), .int (iI (((md : Nat) : Int))), .ref aw, .ref ad, .ref ac, .ref ao, .ref ax])), (ax, .inl (G.2 2, 30, .inr (.inr (.inr (.inr SH)))))]) (roQ (.int (iI ((-1))))) 0 0 (fun _ => False) := by
  refine ro_of (cc := cX4_tell) (maxL := 4) (ret := (some .int)) (by decide) rfl (Nat.le_of_ble_eq_true rfl) ?_
  intro pM eM sM mM bM tM cM hx hb hr hts hown hlocks hml hG hP ls hl
  have hown : sM.vm.findClass RX4 = some mM.cls := hown
  have hl : lv_has ls 4 [(0, .ref x), (1, .int (iI (n))), (2, .int (iI (v)))] := hl
  refine lv_aload_n hx hb dX4_tell_0 rfl (lv_at hl 0 rfl) ?_
  refine va_get (D := G.1) (ci := 4) (v := .ref t) (C := RX4) (T := TX4) (N := 3) hx hb hts inX4_X4_tell hown hG.1 hP 0 rfl rfl 0 (by decide) (hts (.fieldLink RX4 10 "InkOverInk" "now" "LInkOverInk$Sheet;") (by decide +kernel)) (fun _ h9 => h9) rfl dX4_tell_1 ?_
  refine lv_iload_n hx hb dX4_tell_4 rfl (lv_at hl 1 rfl) ?_
  refine k_roV (rest := []) [.int (iI (n))] ⟨hx, hb, hml, hown, hts⟩ (c_X3_find lM G t rw cm tr cr ly md aw ad ac ao ax SH n (by omega)) (cwV 1 hts gX4_tell_X3_find rfl rfl rfl (by decide +kernel) ⟨Nat.le_of_ble_eq_true rfl, Nat.le_of_ble_eq_true rfl⟩) hG (va_recv hG.1 hP (ci := 3) (q0 := 1) rfl rfl) (hP.sub (ws' := [(t, .inr (3, [.int (iI (((rw : Nat) : Int))), .int (iI (((cm : Nat) : Int))), .int (iI (((tr : Nat) : Int))), .int (iI (cr)), .int (iI (((ly : Nat) : Int))), .int (iI (((md : Nat) : Int))), .ref aw, .ref ad, .ref ac, .ref ao, .ref ax])), (ax, .inl (G.2 2, 30, .inr (.inr (.inr (.inr SH)))))]) [1, 2] rfl) rfl rfl hl.1 (Nat.le_of_ble_eq_true rfl) ⟨Nat.zero_le _, Nat.zero_le _⟩ dX4_tell_5 ?_
  rw [h1]
  refine lv_astore_nN (lv' := [(3, .null), (0, .ref x), (1, .int (iI (n))), (2, .int (iI (v)))]) hx hb dX4_tell_8 rfl hl (by decide) rfl (fun ls hl => ?_)
  refine lv_aload_nN hx hb dX4_tell_9 rfl (lv_at hl 0 rfl) ?_
  refine lv_ifnonnullN hx hb dX4_tell_10 ?_
  refine lv_iconst (v := iI (-1)) hx hb dX4_tell_13 rfl ?_
  exact ro_iret (a := (-1)) hx hb hr hlocks dX4_tell_14 (rfl)

set_option maxHeartbeats 4000000 in
set_option maxRecDepth 100000 in
theorem c_X4_tell_O (lM : Launch) (G : GG) (x im : Nat) (t rw cm tr : Nat) (cr : Int) (ly md aw ad ac ao ax : Nat) (p : Nat) (SH : Nat → Option Nat) (n y : Nat) (v : Int) (h1 : SH n = some y) (h2 : n < 30) (h3 : v < 0 ∨ 8 < v) (h4 : -2147483648 ≤ v ∧ v < 2147483648) : Met lM yX4_tell wsX4_tell rmX4_tell (ro G [.ref x, .int (iI (((n : Nat) : Int))), .int (iI (v))] [(x, .inr (4, [.ref t, .ref p, .ref im])), (t, .inr (3, [.int (iI (((rw : Nat) : Int))), .int (iI (((cm : Nat) : Int))), .int (iI (((tr : Nat) : Int))), .int (iI (cr)), .int (iI (((ly : Nat) : Int))), .int (iI (((md : Nat) : Int))), .ref aw, .ref ad, .ref ac, .ref ao, .ref ax])), (ax, .inl (G.2 2, 30, .inr (.inr (.inr (.inr SH)))))]) (roQ (.int (iI ((-1))))) 0 0 (fun _ => False) := by
  refine ro_of (cc := cX4_tell) (maxL := 4) (ret := (some .int)) (by decide) rfl (Nat.le_of_ble_eq_true rfl) ?_
  intro pM eM sM mM bM tM cM hx hb hr hts hown hlocks hml hG hP ls hl
  have hown : sM.vm.findClass RX4 = some mM.cls := hown
  have hl : lv_has ls 4 [(0, .ref x), (1, .int (iI (((n : Nat) : Int)))), (2, .int (iI (v)))] := hl
  refine lv_aload_n hx hb dX4_tell_0 rfl (lv_at hl 0 rfl) ?_
  refine va_get (D := G.1) (ci := 4) (v := .ref t) (C := RX4) (T := TX4) (N := 3) hx hb hts inX4_X4_tell hown hG.1 hP 0 rfl rfl 0 (by decide) (hts (.fieldLink RX4 10 "InkOverInk" "now" "LInkOverInk$Sheet;") (by decide +kernel)) (fun _ h9 => h9) rfl dX4_tell_1 ?_
  refine lv_iload_n hx hb dX4_tell_4 rfl (lv_at hl 1 rfl) ?_
  refine k_roV (rest := []) [.int (iI (((n : Nat) : Int)))] ⟨hx, hb, hml, hown, hts⟩ (c_X3_find lM G t rw cm tr cr ly md aw ad ac ao ax SH ((n : Nat) : Int) (by omega)) (cwV 1 hts gX4_tell_X3_find rfl rfl rfl (by decide +kernel) ⟨Nat.le_of_ble_eq_true rfl, Nat.le_of_ble_eq_true rfl⟩) hG (va_recv hG.1 hP (ci := 3) (q0 := 1) rfl rfl) (hP.sub (ws' := [(t, .inr (3, [.int (iI (((rw : Nat) : Int))), .int (iI (((cm : Nat) : Int))), .int (iI (((tr : Nat) : Int))), .int (iI (cr)), .int (iI (((ly : Nat) : Int))), .int (iI (((md : Nat) : Int))), .ref aw, .ref ad, .ref ac, .ref ao, .ref ax])), (ax, .inl (G.2 2, 30, .inr (.inr (.inr (.inr SH)))))]) [1, 2] rfl) rfl rfl hl.1 (Nat.le_of_ble_eq_true rfl) ⟨Nat.zero_le _, Nat.zero_le _⟩ dX4_tell_5 ?_
  have eo : (if 0 ≤ ((n : Nat) : Int) ∧ ((n : Nat) : Int) ≤ 29 then SH (((n : Nat) : Int)).toNat else none) = some y := by rw [if_pos (by omega)]; exact h1
  rw [eo]
  refine lv_astore_n (lv' := [(3, .ref y), (0, .ref x), (1, .int (iI (((n : Nat) : Int)))), (2, .int (iI (v)))]) hx hb dX4_tell_8 rfl hl (by decide) rfl (fun ls hl => ?_)
  refine lv_aload_n hx hb dX4_tell_9 rfl (lv_at hl 0 rfl) ?_
  refine lv_ifnonnull (tgt := 15) hx hb dX4_tell_10 (by decide) ?_
  refine lv_iload_n hx hb dX4_tell_15 rfl (lv_at hl 3 rfl) ?_
  refine k_tableOut (z := v) (tgt := 141) hx hb (by omega) h3 dX4_tell_16 (by decide) ?_
  refine lv_iconst (v := iI (-1)) hx hb dX4_tell_141 rfl ?_
  exact ro_iret (a := (-1)) hx hb hr hlocks dX4_tell_142 (rfl)
