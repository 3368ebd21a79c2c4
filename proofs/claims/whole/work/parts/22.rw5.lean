def rmX2_init : Room := { frames := 1, cells := 0, slots := 0, locals := 14 }
set_option maxRecDepth 20000 in
theorem inX2_X2_init : ∀ w ∈ wsX20, w ∈ wsX2_init := by decide +kernel
set_option maxHeartbeats 4000000 in
set_option maxRecDepth 100000 in
theorem c_X2_init (lM : Launch) (G : GG) (sz : Nat) (y : Nat) (kd : Nat) (tp lf : Int) (ht wt cl : Nat) (fn : Bool) : Met lM yX2_init wsX2_init rmX2_init (rwP G [.ref y, .int (iI (((kd : Nat) : Int))), .int (iI (tp)), .int (iI (lf)), .int (iI (((ht : Nat) : Int))), .int (iI (((wt : Nat) : Int))), .int (iI (((cl : Nat) : Int))), .int (iI (b2i fn))] [(y, .inr (2, [.int (iI (0)), .int (iI (0)), .int (iI (0)), .int (iI (0)), .int (iI (0)), .int (iI (0)), .int (iI (b2i false))]))] [] sz) (rwA G (va_A [(y, .inr (2, [.int (iI (0)), .int (iI (0)), .int (iI (0)), .int (iI (0)), .int (iI (0)), .int (iI (0)), .int (iI (b2i false))]))] sz) (det none [(y, .inr (2, [.int (iI (((kd : Nat) : Int))), .int (iI (tp)), .int (iI (lf)), .int (iI (((ht : Nat) : Int))), .int (iI (((wt : Nat) : Int))), .int (iI (((cl : Nat) : Int))), .int (iI (b2i fn))]))])) 0 0 (va_A [(y, .inr (2, [.int (iI (0)), .int (iI (0)), .int (iI (0)), .int (iI (0)), .int (iI (0)), .int (iI (0)), .int (iI (b2i false))]))] sz) := by
  refine rw_of (cc := cX2_init) (maxL := 8) (ret := none) (by decide) rfl (Nat.le_of_ble_eq_true rfl) ?_
  intro pM eM sM mM bM tM cM hx hb hr hts hown hlocks hml hin hG A hA hP hD hS hV0 hVA ls hl
  have hown : sM.vm.findClass RX2 = some mM.cls := hown
  have hl : lv_has ls 8 [(0, .ref y), (1, .int (iI (((kd : Nat) : Int)))), (2, .int (iI (tp))), (3, .int (iI (lf))), (4, .int (iI (((ht : Nat) : Int)))), (5, .int (iI (((wt : Nat) : Int)))), (6, .int (iI (((cl : Nat) : Int)))), (7, .int (iI (b2i fn)))] := hl
  refine lv_aload_n hx hb dX2_init_0 rfl (lv_at hl 0 rfl) ?_
  refine W.objInit hx hb hown (hts (.methodLink RX2 3 objectInit) (by decide +kernel)) (hts (.instanceMethod objectInit) (by decide +kernel)) (hts (.code objectInit ⟨#[0xb1]⟩ 1 none) (by decide +kernel)) rfl (by rw [hml]; exact hl.1) rfl dX2_init_1 (Nat.le_of_ble_eq_true rfl) (Nat.le_of_ble_eq_true rfl) ?_
  refine W.eq (g2 := F0 mM 4 ls []) rfl ?_
  refine lv_aload_n hx hb dX2_init_4 rfl (lv_at hl 0 rfl) ?_
  refine lv_iload_n hx hb dX2_init_5 rfl (lv_at hl 1 rfl) ?_
  refine va_putF (D := G.1) (ci := 2) (v := .int (iI (((kd : Nat) : Int)))) (ty := .int) (C := RX2) (T := TX2) (N := 7) hx hb hts inX2_X2_init tyX2 tyX2_ok nmX2 hown hG.1 hP hD hS 0 rfl rfl 0 (by decide) (hts (.fieldLink RX2 9 "InkOverInk$Shape" "kind" "I") (by decide +kernel)) (fun _ h9 => h9) rfl hin rfl (by decide +kernel) rfl rfl (Nat.le_of_ble_eq_true rfl) dX2_init_6 (fun H locs hP hD hS => ?_)
  have hP : va_P G.1 vwCl [(y, .inr (2, [.int (iI (((kd : Nat) : Int))), .int (iI (0)), .int (iI (0)), .int (iI (0)), .int (iI (0)), .int (iI (0)), .int (iI (b2i false))]))] H := hP
  have hD : va_D A [(y, .inr (2, [.int (iI (((kd : Nat) : Int))), .int (iI (0)), .int (iI (0)), .int (iI (0)), .int (iI (0)), .int (iI (0)), .int (iI (b2i false))]))] := hD
  refine lv_aload_n hx hb dX2_init_9 rfl (lv_at hl 0 rfl) ?_
  refine lv_iload_n hx hb dX2_init_10 rfl (lv_at hl 2 rfl) ?_
  refine va_putF (D := G.1) (ci := 2) (v := .int (iI (tp))) (ty := .int) (C := RX2) (T := TX2) (N := 7) hx hb hts inX2_X2_init tyX2 tyX2_ok nmX2 hown hG.1 hP hD hS 0 rfl rfl 1 (by decide) (hts (.fieldLink RX2 15 "InkOverInk$Shape" "row" "I") (by decide +kernel)) (fun _ h9 => h9) rfl hin rfl (by decide +kernel) rfl rfl (Nat.le_of_ble_eq_true rfl) dX2_init_11 (fun H locs hP hD hS => ?_)
  have hP : va_P G.1 vwCl [(y, .inr (2, [.int (iI (((kd : Nat) : Int))), .int (iI (tp)), .int (iI (0)), .int (iI (0)), .int (iI (0)), .int (iI (0)), .int (iI (b2i false))]))] H := hP
  have hD : va_D A [(y, .inr (2, [.int (iI (((kd : Nat) : Int))), .int (iI (tp)), .int (iI (0)), .int (iI (0)), .int (iI (0)), .int (iI (0)), .int (iI (b2i false))]))] := hD
  refine lv_aload_n hx hb dX2_init_14 rfl (lv_at hl 0 rfl) ?_
  refine lv_iload_n hx hb dX2_init_15 rfl (lv_at hl 3 rfl) ?_
  refine va_putF (D := G.1) (ci := 2) (v := .int (iI (lf))) (ty := .int) (C := RX2) (T := TX2) (N := 7) hx hb hts inX2_X2_init tyX2 tyX2_ok nmX2 hown hG.1 hP hD hS 0 rfl rfl 2 (by decide) (hts (.fieldLink RX2 18 "InkOverInk$Shape" "column" "I") (by decide +kernel)) (fun _ h9 => h9) rfl hin rfl (by decide +kernel) rfl rfl (Nat.le_of_ble_eq_true rfl) dX2_init_16 (fun H locs hP hD hS => ?_)
  have hP : va_P G.1 vwCl [(y, .inr (2, [.int (iI (((kd : Nat) : Int))), .int (iI (tp)), .int (iI (lf)), .int (iI (0)), .int (iI (0)), .int (iI (0)), .int (iI (b2i false))]))] H := hP
  have hD : va_D A [(y, .inr (2, [.int (iI (((kd : Nat) : Int))), .int (iI (tp)), .int (iI (lf)), .int (iI (0)), .int (iI (0)), .int (iI (0)), .int (iI (b2i false))]))] := hD
  refine lv_aload_n hx hb dX2_init_19 rfl (lv_at hl 0 rfl) ?_
  refine lv_iload hx hb dX2_init_20 (lv_at hl 4 rfl) ?_
  refine va_putF (D := G.1) (ci := 2) (v := .int (iI (((ht : Nat) : Int)))) (ty := .int) (C := RX2) (T := TX2) (N := 7) hx hb hts inX2_X2_init tyX2 tyX2_ok nmX2 hown hG.1 hP hD hS 0 rfl rfl 3 (by decide) (hts (.fieldLink RX2 21 "InkOverInk$Shape" "height" "I") (by decide +kernel)) (fun _ h9 => h9) rfl hin rfl (by decide +kernel) rfl rfl (Nat.le_of_ble_eq_true rfl) dX2_init_22 (fun H locs hP hD hS => ?_)
  have hP : va_P G.1 vwCl [(y, .inr (2, [.int (iI (((kd : Nat) : Int))), .int (iI (tp)), .int (iI (lf)), .int (iI (((ht : Nat) : Int))), .int (iI (0)), .int (iI (0)), .int (iI (b2i false))]))] H := hP
  have hD : va_D A [(y, .inr (2, [.int (iI (((kd : Nat) : Int))), .int (iI (tp)), .int (iI (lf)), .int (iI (((ht : Nat) : Int))), .int (iI (0)), .int (iI (0)), .int (iI (b2i false))]))] := hD
  refine lv_aload_n hx hb dX2_init_25 rfl (lv_at hl 0 rfl) ?_
  refine lv_iload hx hb dX2_init_26 (lv_at hl 5 rfl) ?_
  refine va_putF (D := G.1) (ci := 2) (v := .int (iI (((wt : Nat) : Int)))) (ty := .int) (C := RX2) (T := TX2) (N := 7) hx hb hts inX2_X2_init tyX2 tyX2_ok nmX2 hown hG.1 hP hD hS 0 rfl rfl 4 (by decide) (hts (.fieldLink RX2 24 "InkOverInk$Shape" "width" "I") (by decide +kernel)) (fun _ h9 => h9) rfl hin rfl (by decide +kernel) rfl rfl (Nat.le_of_ble_eq_true rfl) dX2_init_28 (fun H locs hP hD hS => ?_)
  have hP : va_P G.1 vwCl [(y, .inr (2, [.int (iI (((kd : Nat) : Int))), .int (iI (tp)), .int (iI (lf)), .int (iI (((ht : Nat) : Int))), .int (iI (((wt : Nat) : Int))), .int (iI (0)), .int (iI (b2i false))]))] H := hP
  have hD : va_D A [(y, .inr (2, [.int (iI (((kd : Nat) : Int))), .int (iI (tp)), .int (iI (lf)), .int (iI (((ht : Nat) : Int))), .int (iI (((wt : Nat) : Int))), .int (iI (0)), .int (iI (b2i false))]))] := hD
  refine lv_aload_n hx hb dX2_init_31 rfl (lv_at hl 0 rfl) ?_
  refine lv_iload hx hb dX2_init_32 (lv_at hl 6 rfl) ?_
  refine va_putF (D := G.1) (ci := 2) (v := .int (iI (((cl : Nat) : Int)))) (ty := .int) (C := RX2) (T := TX2) (N := 7) hx hb hts inX2_X2_init tyX2 tyX2_ok nmX2 hown hG.1 hP hD hS 0 rfl rfl 5 (by decide) (hts (.fieldLink RX2 27 "InkOverInk$Shape" "colour" "I") (by decide +kernel)) (fun _ h9 => h9) rfl hin rfl (by decide +kernel) rfl rfl (Nat.le_of_ble_eq_true rfl) dX2_init_34 (fun H locs hP hD hS => ?_)
  have hP : va_P G.1 vwCl [(y, .inr (2, [.int (iI (((kd : Nat) : Int))), .int (iI (tp)), .int (iI (lf)), .int (iI (((ht : Nat) : Int))), .int (iI (((wt : Nat) : Int))), .int (iI (((cl : Nat) : Int))), .int (iI (b2i false))]))] H := hP
  have hD : va_D A [(y, .inr (2, [.int (iI (((kd : Nat) : Int))), .int (iI (tp)), .int (iI (lf)), .int (iI (((ht : Nat) : Int))), .int (iI (((wt : Nat) : Int))), .int (iI (((cl : Nat) : Int))), .int (iI (b2i false))]))] := hD
  refine lv_aload_n hx hb dX2_init_37 rfl (lv_at hl 0 rfl) ?_
  refine lv_iload hx hb dX2_init_38 (lv_at hl 7 rfl) ?_
  refine va_putF (D := G.1) (ci := 2) (v := .int (iI (b2i fn))) (ty := .boolean) (C := RX2) (T := TX2) (N := 7) hx hb hts inX2_X2_init tyX2 tyX2_ok nmX2 hown hG.1 hP hD hS 0 rfl rfl 6 (by decide) (hts (.fieldLink RX2 30 "InkOverInk$Shape" "fine" "Z") (by decide +kernel)) (fun _ h9 => h9) rfl hin rfl (by decide +kernel) (b2i_nar fn) (b2i_fit fn) (Nat.le_of_ble_eq_true rfl) dX2_init_40 (fun H locs hP hD hS => ?_)
  have hP : va_P G.1 vwCl [(y, .inr (2, [.int (iI (((kd : Nat) : Int))), .int (iI (tp)), .int (iI (lf)), .int (iI (((ht : Nat) : Int))), .int (iI (((wt : Nat) : Int))), .int (iI (((cl : Nat) : Int))), .int (iI (b2i fn))]))] H := hP
  have hD : va_D A [(y, .inr (2, [.int (iI (((kd : Nat) : Int))), .int (iI (tp)), .int (iI (lf)), .int (iI (((ht : Nat) : Int))), .int (iI (((wt : Nat) : Int))), .int (iI (((cl : Nat) : Int))), .int (iI (b2i fn))]))] := hD
  exact rw_vret hx hb hr hlocks hP hD hS dX2_init_43 (⟨rfl, rfl⟩)

def rmX2_movedTo : Room := { frames := 2, cells := 1, slots := 7, locals := 41 }
set_option maxRecDepth 20000 in
theorem inX2_X2_movedTo : ∀ w ∈ wsX20, w ∈ wsX2_movedTo := by decide +kernel
set_option maxHeartbeats 4000000 in
set_option maxRecDepth 100000 in
theorem c_X2_movedTo (lM : Launch) (G : GG) (sz : Nat) (y : Nat) (kd : Nat) (tp lf : Int) (ht wt cl : Nat) (fn : Bool) (u v : Int) : Met lM yX2_movedTo wsX2_movedTo rmX2_movedTo (rwP G [.ref y, .int (iI (u)), .int (iI (v))] [] [(y, .inr (2, [.int (iI (((kd : Nat) : Int))), .int (iI (tp)), .int (iI (lf)), .int (iI (((ht : Nat) : Int))), .int (iI (((wt : Nat) : Int))), .int (iI (((cl : Nat) : Int))), .int (iI (b2i fn))]))] sz) (rwA G (va_A [] sz) (fun o w1 => ∃ q : Nat, o = some (.ref q) ∧ w1 = [(q, .inr (2, [.int (iI (((kd : Nat) : Int))), .int (iI (u)), .int (iI (v)), .int (iI (((ht : Nat) : Int))), .int (iI (((wt : Nat) : Int))), .int (iI (((cl : Nat) : Int))), .int (iI (b2i fn))]))])) 1 7 (va_A [] sz) := by
  refine rw_of (cc := cX2_movedTo) (maxL := 3) (ret := (some (.object "InkOverInk$Shape"))) (by decide) rfl (Nat.le_of_ble_eq_true rfl) ?_
  intro pM eM sM mM bM tM cM hx hb hr hts hown hlocks hml hin hG A hA hP hD hS hV0 hVA ls hl
  have hown : sM.vm.findClass RX2 = some mM.cls := hown
  have hl : lv_has ls 3 [(0, .ref y), (1, .int (iI (u))), (2, .int (iI (v)))] := hl
  refine va_new (ci := 2) (fs := [.int (iI (0)), .int (iI (0)), .int (iI (0)), .int (iI (0)), .int (iI (0)), .int (iI (0)), .int (iI (b2i false))]) (C := RX2) (T := TX2) (N := 7) hx hb hts inX2_X2_movedTo tyX2 tyX2_ok hown (hts (.classLink RX2 10 RX2) (by decide +kernel)) (hts (.instantiable RX2 7) (by decide +kernel)) (hts (.initialized RX2) (by decide +kernel)) hG.1 hP hD hS hA rfl (fun j hj => by rcases (show j = 0 ∨ j = 1 ∨ j = 2 ∨ j = 3 ∨ j = 4 ∨ j = 5 ∨ j = 6 by omega) with rfl | rfl | rfl | rfl | rfl | rfl | rfl <;> rfl) (Nat.le_of_ble_eq_true rfl) (Nat.le_of_ble_eq_true rfl) dX2_movedTo_0 (fun q_0 H hP hD hS => ?_)
  have hP : va_P G.1 vwCl [(q_0, .inr (2, [.int (iI (0)), .int (iI (0)), .int (iI (0)), .int (iI (0)), .int (iI (0)), .int (iI (0)), .int (iI (b2i false))]))] H := hP
  have hD : va_D A [(q_0, .inr (2, [.int (iI (0)), .int (iI (0)), .int (iI (0)), .int (iI (0)), .int (iI (0)), .int (iI (0)), .int (iI (b2i false))]))] := hD
  refine W.widen (k := 1) (n := 7) (by decide) (by decide) ?_
  refine lv_dup hx hb dX2_movedTo_3 rfl ?_
  refine lv_aload_n hx hb dX2_movedTo_4 rfl (lv_at hl 0 rfl) ?_
  refine va_get (D := G.1) (ci := 2) (v := .int (iI (((kd : Nat) : Int)))) (C := RX2) (T := TX2) (N := 7) hx hb hts inX2_X2_movedTo hown hG.1 (rk hV0 hVA hS) 0 rfl rfl 0 (by decide) (hts (.fieldLink RX2 9 "InkOverInk$Shape" "kind" "I") (by decide +kernel)) (fun _ h9 => h9) rfl dX2_movedTo_5 ?_
  refine lv_iload_n hx hb dX2_movedTo_8 rfl (lv_at hl 1 rfl) ?_
  refine lv_iload_n hx hb dX2_movedTo_9 rfl (lv_at hl 2 rfl) ?_
  refine lv_aload_n hx hb dX2_movedTo_10 rfl (lv_at hl 0 rfl) ?_
  refine va_get (D := G.1) (ci := 2) (v := .int (iI (((ht : Nat) : Int)))) (C := RX2) (T := TX2) (N := 7) hx hb hts inX2_X2_movedTo hown hG.1 (rk hV0 hVA hS) 0 rfl rfl 3 (by decide) (hts (.fieldLink RX2 21 "InkOverInk$Shape" "height" "I") (by decide +kernel)) (fun _ h9 => h9) rfl dX2_movedTo_11 ?_
  refine lv_aload_n hx hb dX2_movedTo_14 rfl (lv_at hl 0 rfl) ?_
  refine va_get (D := G.1) (ci := 2) (v := .int (iI (((wt : Nat) : Int)))) (C := RX2) (T := TX2) (N := 7) hx hb hts inX2_X2_movedTo hown hG.1 (rk hV0 hVA hS) 0 rfl rfl 4 (by decide) (hts (.fieldLink RX2 24 "InkOverInk$Shape" "width" "I") (by decide +kernel)) (fun _ h9 => h9) rfl dX2_movedTo_15 ?_
  refine lv_aload_n hx hb dX2_movedTo_18 rfl (lv_at hl 0 rfl) ?_
  refine va_get (D := G.1) (ci := 2) (v := .int (iI (((cl : Nat) : Int)))) (C := RX2) (T := TX2) (N := 7) hx hb hts inX2_X2_movedTo hown hG.1 (rk hV0 hVA hS) 0 rfl rfl 5 (by decide) (hts (.fieldLink RX2 27 "InkOverInk$Shape" "colour" "I") (by decide +kernel)) (fun _ h9 => h9) rfl dX2_movedTo_19 ?_
  refine lv_aload_n hx hb dX2_movedTo_22 rfl (lv_at hl 0 rfl) ?_
  refine va_get (D := G.1) (ci := 2) (v := .int (iI (b2i fn))) (C := RX2) (T := TX2) (N := 7) hx hb hts inX2_X2_movedTo hown hG.1 (rk hV0 hVA hS) 0 rfl rfl 6 (by decide) (hts (.fieldLink RX2 30 "InkOverInk$Shape" "fine" "Z") (by decide +kernel)) (fun _ h9 => h9) rfl dX2_movedTo_23 ?_
  refine k_rwI (rest := [.ref q_0]) (wr := []) (w := [(q_0, .inr (2, [.int (iI (0)), .int (iI (0)), .int (iI (0)), .int (iI (0)), .int (iI (0)), .int (iI (0)), .int (iI (b2i false))]))]) (v := []) [.int (iI (((kd : Nat) : Int))), .int (iI (u)), .int (iI (v)), .int (iI (((ht : Nat) : Int))), .int (iI (((wt : Nat) : Int))), .int (iI (((cl : Nat) : Int))), .int (iI (b2i fn))] ⟨hx, hb, hml, hown, hts⟩ (c_X2_init lM G H.size q_0 kd u v ht wt cl fn ) (cwI 7 hts gX2_movedTo_X2_init rfl rfl rfl (hts (.initialized RX2) (by decide +kernel)) (hts (.methodLink RX2 34 yX2_init) (by decide +kernel)) (hts (.instanceMethod yX2_init) (by decide +kernel)) rfl (by decide +kernel) ⟨Nat.le_of_ble_eq_true rfl, Nat.le_of_ble_eq_true rfl⟩) hG hP hD hS hA [0] [] rfl rfl (by decide) (fun k q h => by simp at h) ap_nil rfl rfl hl.1 (Nat.le_of_ble_eq_true rfl) ⟨Nat.le_of_ble_eq_true rfl, Nat.le_of_ble_eq_true rfl⟩ dX2_movedTo_26 (fun o9 w9 H locs h9 hP hD hS => ?_)
  obtain ⟨rfl, rfl⟩ := h9
  have hP := hP.sub (ws' := [(q_0, .inr (2, [.int (iI (((kd : Nat) : Int))), .int (iI (u)), .int (iI (v)), .int (iI (((ht : Nat) : Int))), .int (iI (((wt : Nat) : Int))), .int (iI (((cl : Nat) : Int))), .int (iI (b2i fn))]))]) [0] rfl
  have hD := hD.sub (ws' := [(q_0, .inr (2, [.int (iI (((kd : Nat) : Int))), .int (iI (u)), .int (iI (v)), .int (iI (((ht : Nat) : Int))), .int (iI (((wt : Nat) : Int))), .int (iI (((cl : Nat) : Int))), .int (iI (b2i fn))]))]) [0] (by decide) rfl
  exact rw_aret hx hb hr hlocks hP hD hS dX2_movedTo_29 (⟨q_0, rfl, rfl⟩)

def rmX2_painted : Room := { frames := 2, cells := 1, slots := 7, locals := 41 }
set_option maxRecDepth 20000 in
theorem inX2_X2_painted : ∀ w ∈ wsX20, w ∈ wsX2_painted := by decide +kernel
set_option maxHeartbeats 4000000 in
set_option maxRecDepth 100000 in
theorem c_X2_painted (lM : Launch) (G : GG) (sz : Nat) (y : Nat) (kd : Nat) (tp lf : Int) (ht wt cl : Nat) (fn : Bool) (u : Nat) (v : Bool) : Met lM yX2_painted wsX2_painted rmX2_painted (rwP G [.ref y, .int (iI (((u : Nat) : Int))), .int (iI (b2i v))] [] [(y, .inr (2, [.int (iI (((kd : Nat) : Int))), .int (iI (tp)), .int (iI (lf)), .int (iI (((ht : Nat) : Int))), .int (iI (((wt : Nat) : Int))), .int (iI (((cl : Nat) : Int))), .int (iI (b2i fn))]))] sz) (rwA G (va_A [] sz) (fun o w1 => ∃ q : Nat, o = some (.ref q) ∧ w1 = [(q, .inr (2, [.int (iI (((kd : Nat) : Int))), .int (iI (tp)), .int (iI (lf)), .int (iI (((ht : Nat) : Int))), .int (iI (((wt : Nat) : Int))), .int (iI (((u : Nat) : Int))), .int (iI (b2i v))]))])) 1 7 (va_A [] sz) := by
  refine rw_of (cc := cX2_painted) (maxL := 3) (ret := (some (.object "InkOverInk$Shape"))) (by decide) rfl (Nat.le_of_ble_eq_true rfl) ?_
  intro pM eM sM mM bM tM cM hx hb hr hts hown hlocks hml hin hG A hA hP hD hS hV0 hVA ls hl
  have hown : sM.vm.findClass RX2 = some mM.cls := hown
  have hl : lv_has ls 3 [(0, .ref y), (1, .int (iI (((u : Nat) : Int)))), (2, .int (iI (b2i v)))] := hl
  refine va_new (ci := 2) (fs := [.int (iI (0)), .int (iI (0)), .int (iI (0)), .int (iI (0)), .int (iI (0)), .int (iI (0)), .int (iI (b2i false))]) (C := RX2) (T := TX2) (N := 7) hx hb hts inX2_X2_painted tyX2 tyX2_ok hown (hts (.classLink RX2 10 RX2) (by decide +kernel)) (hts (.instantiable RX2 7) (by decide +kernel)) (hts (.initialized RX2) (by decide +kernel)) hG.1 hP hD hS hA rfl (fun j hj => by rcases (show j = 0 ∨ j = 1 ∨ j = 2 ∨ j = 3 ∨ j = 4 ∨ j = 5 ∨ j = 6 by omega) with rfl | rfl | rfl | rfl | rfl | rfl | rfl <;> rfl) (Nat.le_of_ble_eq_true rfl) (Nat.le_of_ble_eq_true rfl) dX2_painted_0 (fun q_0 H hP hD hS => ?_)
  have hP : va_P G.1 vwCl [(q_0, .inr (2, [.int (iI (0)), .int (iI (0)), .int (iI (0)), .int (iI (0)), .int (iI (0)), .int (iI (0)), .int (iI (b2i false))]))] H := hP
  have hD : va_D A [(q_0, .inr (2, [.int (iI (0)), .int (iI (0)), .int (iI (0)), .int (iI (0)), .int (iI (0)), .int (iI (0)), .int (iI (b2i false))]))] := hD
  refine W.widen (k := 1) (n := 7) (by decide) (by decide) ?_
  refine lv_dup hx hb dX2_painted_3 rfl ?_
  refine lv_aload_n hx hb dX2_painted_4 rfl (lv_at hl 0 rfl) ?_
  refine va_get (D := G.1) (ci := 2) (v := .int (iI (((kd : Nat) : Int)))) (C := RX2) (T := TX2) (N := 7) hx hb hts inX2_X2_painted hown hG.1 (rk hV0 hVA hS) 0 rfl rfl 0 (by decide) (hts (.fieldLink RX2 9 "InkOverInk$Shape" "kind" "I") (by decide +kernel)) (fun _ h9 => h9) rfl dX2_painted_5 ?_
  refine lv_aload_n hx hb dX2_painted_8 rfl (lv_at hl 0 rfl) ?_
  refine va_get (D := G.1) (ci := 2) (v := .int (iI (tp))) (C := RX2) (T := TX2) (N := 7) hx hb hts inX2_X2_painted hown hG.1 (rk hV0 hVA hS) 0 rfl rfl 1 (by decide) (hts (.fieldLink RX2 15 "InkOverInk$Shape" "row" "I") (by decide +kernel)) (fun _ h9 => h9) rfl dX2_painted_9 ?_
  refine lv_aload_n hx hb dX2_painted_12 rfl (lv_at hl 0 rfl) ?_
  refine va_get (D := G.1) (ci := 2) (v := .int (iI (lf))) (C := RX2) (T := TX2) (N := 7) hx hb hts inX2_X2_painted hown hG.1 (rk hV0 hVA hS) 0 rfl rfl 2 (by decide) (hts (.fieldLink RX2 18 "InkOverInk$Shape" "column" "I") (by decide +kernel)) (fun _ h9 => h9) rfl dX2_painted_13 ?_
  refine lv_aload_n hx hb dX2_painted_16 rfl (lv_at hl 0 rfl) ?_
  refine va_get (D := G.1) (ci := 2) (v := .int (iI (((ht : Nat) : Int)))) (C := RX2) (T := TX2) (N := 7) hx hb hts inX2_X2_painted hown hG.1 (rk hV0 hVA hS) 0 rfl rfl 3 (by decide) (hts (.fieldLink RX2 21 "InkOverInk$Shape" "height" "I") (by decide +kernel)) (fun _ h9 => h9) rfl dX2_painted_17 ?_
  refine lv_aload_n hx hb dX2_painted_20 rfl (lv_at hl 0 rfl) ?_
  refine va_get (D := G.1) (ci := 2) (v := .int (iI (((wt : Nat) : Int)))) (C := RX2) (T := TX2) (N := 7) hx hb hts inX2_X2_painted hown hG.1 (rk hV0 hVA hS) 0 rfl rfl 4 (by decide) (hts (.fieldLink RX2 24 "InkOverInk$Shape" "width" "I") (by decide +kernel)) (fun _ h9 => h9) rfl dX2_painted_21 ?_
  refine lv_iload_n hx hb dX2_painted_24 rfl (lv_at hl 1 rfl) ?_
  refine lv_iload_n hx hb dX2_painted_25 rfl (lv_at hl 2 rfl) ?_
  refine k_rwI (rest := [.ref q_0]) (wr := []) (w := [(q_0, .inr (2, [.int (iI (0)), .int (iI (0)), .int (iI (0)), .int (iI (0)), .int (iI (0)), .int (iI (0)), .int (iI (b2i false))]))]) (v := []) [.int (iI (((kd : Nat) : Int))), .int (iI (tp)), .int (iI (lf)), .int (iI (((ht : Nat) : Int))), .int (iI (((wt : Nat) : Int))), .int (iI (((u : Nat) : Int))), .int (iI (b2i v))] ⟨hx, hb, hml, hown, hts⟩ (c_X2_init lM G H.size q_0 kd tp lf ht wt u v ) (cwI 7 hts gX2_painted_X2_init rfl rfl rfl (hts (.initialized RX2) (by decide +kernel)) (hts (.methodLink RX2 34 yX2_init) (by decide +kernel)) (hts (.instanceMethod yX2_init) (by decide +kernel)) rfl (by decide +kernel) ⟨Nat.le_of_ble_eq_true rfl, Nat.le_of_ble_eq_true rfl⟩) hG hP hD hS hA [0] [] rfl rfl (by decide) (fun k q h => by simp at h) ap_nil rfl rfl hl.1 (Nat.le_of_ble_eq_true rfl) ⟨Nat.le_of_ble_eq_true rfl, Nat.le_of_ble_eq_true rfl⟩ dX2_painted_26 (fun o9 w9 H locs h9 hP hD hS => ?_)
  obtain ⟨rfl, rfl⟩ := h9
  have hP := hP.sub (ws' := [(q_0, .inr (2, [.int (iI (((kd : Nat) : Int))), .int (iI (tp)), .int (iI (lf)), .int (iI (((ht : Nat) : Int))), .int (iI (((wt : Nat) : Int))), .int (iI (((u : Nat) : Int))), .int (iI (b2i v))]))]) [0] rfl
  have hD := hD.sub (ws' := [(q_0, .inr (2, [.int (iI (((kd : Nat) : Int))), .int (iI (tp)), .int (iI (lf)), .int (iI (((ht : Nat) : Int))), .int (iI (((wt : Nat) : Int))), .int (iI (((u : Nat) : Int))), .int (iI (b2i v))]))]) [0] (by decide) rfl
  exact rw_aret hx hb hr hlocks hP hD hS dX2_painted_29 (⟨q_0, rfl, rfl⟩)

def rmX3_layRight : Room := { frames := 1, cells := 0, slots := 0, locals := 23 }
set_option maxRecDepth 20000 in
theorem inX3_X3_layRight : ∀ w ∈ wsX30, w ∈ wsX3_layRight := by decide +kernel
set_option maxHeartbeats 4000000 in
set_option maxRecDepth 100000 in
theorem c_X3_layRight (lM : Launch) (G : GG) (sz : Nat) (t rw cm tr : Nat) (cr : Int) (ly md aw ad ac ao ax : Nat) (AC DN : Nat → Int) : Met lM yX3_layRight wsX3_layRight rmX3_layRight (rwP G [.ref t] [(t, .inr (3, [.int (iI (((rw : Nat) : Int))), .int (iI (((cm : Nat) : Int))), .int (iI (((tr : Nat) : Int))), .int (iI (cr)), .int (iI (((ly : Nat) : Int))), .int (iI (((md : Nat) : Int))), .ref aw, .ref ad, .ref ac, .ref ao, .ref ax])), (ad, .inl (G.2 0, 4, .inl (fun iX => iI (DN iX)))), (ac, .inl (G.2 0, 4, .inl (fun iX => iI (AC iX))))] [] sz) (rwA G (va_A [(t, .inr (3, [.int (iI (((rw : Nat) : Int))), .int (iI (((cm : Nat) : Int))), .int (iI (((tr : Nat) : Int))), .int (iI (cr)), .int (iI (((ly : Nat) : Int))), .int (iI (((md : Nat) : Int))), .ref aw, .ref ad, .ref ac, .ref ao, .ref ax])), (ad, .inl (G.2 0, 4, .inl (fun iX => iI (DN iX)))), (ac, .inl (G.2 0, 4, .inl (fun iX => iI (AC iX))))] sz) (det none [(t, .inr (3, [.int (iI (((rw : Nat) : Int))), .int (iI (((cm : Nat) : Int))), .int (iI (((tr : Nat) : Int))), .int (iI (0)), .int (iI (((ly : Nat) : Int))), .int (iI (((md : Nat) : Int))), .ref aw, .ref ad, .ref ac, .ref ao, .ref ax])), (ad, .inl (G.2 0, 4, .inl (fun iX => iI ((fun _ => 0) iX)))), (ac, .inl (G.2 0, 4, .inl (fun iX => iI ((fun _ => 0) iX))))])) 0 0 (va_A [(t, .inr (3, [.int (iI (((rw : Nat) : Int))), .int (iI (((cm : Nat) : Int))), .int (iI (((tr : Nat) : Int))), .int (iI (cr)), .int (iI (((ly : Nat) : Int))), .int (iI (((md : Nat) : Int))), .ref aw, .ref ad, .ref ac, .ref ao, .ref ax])), (ad, .inl (G.2 0, 4, .inl (fun iX => iI (DN iX)))), (ac, .inl (G.2 0, 4, .inl (fun iX => iI (AC iX))))] sz) := by
  refine rw_of (cc := cX3_layRight) (maxL := 1) (ret := none) (by decide) rfl (Nat.le_of_ble_eq_true rfl) ?_
  intro pM eM sM mM bM tM cM hx hb hr hts hown hlocks hml hin hG A hA hP hD hS hV0 hVA ls hl
  have hown : sM.vm.findClass RX3 = some mM.cls := hown
  have hl : lv_has ls 1 [(0, .ref t)] := hl
  refine lv_aload_n hx hb dX3_layRight_0 rfl (lv_at hl 0 rfl) ?_
  refine lv_iconst (v := iI (0)) hx hb dX3_layRight_1 rfl ?_
  refine va_put (D := G.1) (ci := 3) (v := .int (iI (0))) (ty := .int) (C := RX3) (T := TX3) (N := 11) hx hb hts inX3_X3_layRight tyX3 tyX3_ok nmX3 hown hG.1 hP hD hS 0 rfl rfl 3 (by decide) (hts (.fieldLink RX3 40 "InkOverInk$Sheet" "creeping" "I") (by decide +kernel)) (fun _ h9 => h9) rfl (by decide +kernel) rfl rfl (Nat.le_of_ble_eq_true rfl) dX3_layRight_2 (fun H locs hP hD hS => ?_)
  have hP : va_P G.1 vwCl [(t, .inr (3, [.int (iI (((rw : Nat) : Int))), .int (iI (((cm : Nat) : Int))), .int (iI (((tr : Nat) : Int))), .int (iI (0)), .int (iI (((ly : Nat) : Int))), .int (iI (((md : Nat) : Int))), .ref aw, .ref ad, .ref ac, .ref ao, .ref ax])), (ad, .inl (G.2 0, 4, .inl (fun iX => iI (DN iX)))), (ac, .inl (G.2 0, 4, .inl (fun iX => iI (AC iX))))] H := hP
  have hD : va_D A [(t, .inr (3, [.int (iI (((rw : Nat) : Int))), .int (iI (((cm : Nat) : Int))), .int (iI (((tr : Nat) : Int))), .int (iI (0)), .int (iI (((ly : Nat) : Int))), .int (iI (((md : Nat) : Int))), .ref aw, .ref ad, .ref ac, .ref ao, .ref ax])), (ad, .inl (G.2 0, 4, .inl (fun iX => iI (DN iX)))), (ac, .inl (G.2 0, 4, .inl (fun iX => iI (AC iX))))] := hD
  refine lv_aload_n hx hb dX3_layRight_5 rfl (lv_at hl 0 rfl) ?_
  refine va_get (D := G.1) (ci := 3) (v := .ref ad) (C := RX3) (T := TX3) (N := 11) hx hb hts inX3_X3_layRight hown hG.1 hP 0 rfl rfl 7 (by decide) (hts (.fieldLink RX3 22 "InkOverInk$Sheet" "down" "[I") (by decide +kernel)) (fun _ h9 => h9) rfl dX3_layRight_6 ?_
  refine lv_iconst (v := iI (0)) hx hb dX3_layRight_9 rfl ?_
  refine k_rwS (rest := []) (wr := [(t, .inr (3, [.int (iI (((rw : Nat) : Int))), .int (iI (((cm : Nat) : Int))), .int (iI (((tr : Nat) : Int))), .int (iI (0)), .int (iI (((ly : Nat) : Int))), .int (iI (((md : Nat) : Int))), .ref aw, .ref ad, .ref ac, .ref ao, .ref ax])), (ac, .inl (G.2 0, 4, .inl (fun iX => iI (AC iX))))]) (w := [(ad, .inl (G.2 0, 4, .inl (fun iX => iI (DN iX))))]) (v := []) [.ref ad, .int (iI (0))] ⟨hx, hb, hml, hown, hts⟩ (c_J7_fill_53178 lM G H.size ad 4 DN 0 (by omega)) (va_cwS 2 hts gX3_layRight_J7_fill_53178 rfl rfl rfl (by decide +kernel) ⟨Nat.le_of_ble_eq_true rfl, Nat.le_of_ble_eq_true rfl⟩) hG hP hD hS hA [1] [0, 2] rfl rfl (by decide) (fun k q h => by simp at h) ap_nil rfl rfl hl.1 (Nat.le_of_ble_eq_true rfl) ⟨Nat.le_of_ble_eq_true rfl, Nat.le_of_ble_eq_true rfl⟩ dX3_layRight_10 (fun o9 w9 H locs h9 hP hD hS => ?_)
  obtain ⟨rfl, rfl⟩ := h9
  have hP := hP.sub (ws' := [(t, .inr (3, [.int (iI (((rw : Nat) : Int))), .int (iI (((cm : Nat) : Int))), .int (iI (((tr : Nat) : Int))), .int (iI (0)), .int (iI (((ly : Nat) : Int))), .int (iI (((md : Nat) : Int))), .ref aw, .ref ad, .ref ac, .ref ao, .ref ax])), (ad, .inl (G.2 0, 4, .inl (fun iX => iI ((fun _ => 0) iX)))), (ac, .inl (G.2 0, 4, .inl (fun iX => iI (AC iX))))]) [0, 2, 1] rfl
  have hD := hD.sub (ws' := [(t, .inr (3, [.int (iI (((rw : Nat) : Int))), .int (iI (((cm : Nat) : Int))), .int (iI (((tr : Nat) : Int))), .int (iI (0)), .int (iI (((ly : Nat) : Int))), .int (iI (((md : Nat) : Int))), .ref aw, .ref ad, .ref ac, .ref ao, .ref ax])), (ad, .inl (G.2 0, 4, .inl (fun iX => iI ((fun _ => 0) iX)))), (ac, .inl (G.2 0, 4, .inl (fun iX => iI (AC iX))))]) [0, 2, 1] (by decide) rfl
  refine lv_aload_n hx hb dX3_layRight_13 rfl (lv_at hl 0 rfl) ?_
  refine va_get (D := G.1) (ci := 3) (v := .ref ac) (C := RX3) (T := TX3) (N := 11) hx hb hts inX3_X3_layRight hown hG.1 hP 0 rfl rfl 8 (by decide) (hts (.fieldLink RX3 25 "InkOverInk$Sheet" "across" "[I") (by decide +kernel)) (fun _ h9 => h9) rfl dX3_layRight_14 ?_
  refine lv_iconst (v := iI (0)) hx hb dX3_layRight_17 rfl ?_
  refine k_rwS (rest := []) (wr := [(t, .inr (3, [.int (iI (((rw : Nat) : Int))), .int (iI (((cm : Nat) : Int))), .int (iI (((tr : Nat) : Int))), .int (iI (0)), .int (iI (((ly : Nat) : Int))), .int (iI (((md : Nat) : Int))), .ref aw, .ref ad, .ref ac, .ref ao, .ref ax])), (ad, .inl (G.2 0, 4, .inl (fun iX => iI ((fun _ => 0) iX))))]) (w := [(ac, .inl (G.2 0, 4, .inl (fun iX => iI (AC iX))))]) (v := []) [.ref ac, .int (iI (0))] ⟨hx, hb, hml, hown, hts⟩ (c_J7_fill_53178 lM G H.size ac 4 AC 0 (by omega)) (va_cwS 2 hts gX3_layRight_J7_fill_53178 rfl rfl rfl (by decide +kernel) ⟨Nat.le_of_ble_eq_true rfl, Nat.le_of_ble_eq_true rfl⟩) hG hP hD hS hA [2] [0, 1] rfl rfl (by decide) (fun k q h => by simp at h) ap_nil rfl rfl hl.1 (Nat.le_of_ble_eq_true rfl) ⟨Nat.le_of_ble_eq_true rfl, Nat.le_of_ble_eq_true rfl⟩ dX3_layRight_18 (fun o9 w9 H locs h9 hP hD hS => ?_)
  obtain ⟨rfl, rfl⟩ := h9
  have hP := hP.sub (ws' := [(t, .inr (3, [.int (iI (((rw : Nat) : Int))), .int (iI (((cm : Nat) : Int))), .int (iI (((tr : Nat) : Int))), .int (iI (0)), .int (iI (((ly : Nat) : Int))), .int (iI (((md : Nat) : Int))), .ref aw, .ref ad, .ref ac, .ref ao, .ref ax])), (ad, .inl (G.2 0, 4, .inl (fun iX => iI ((fun _ => 0) iX)))), (ac, .inl (G.2 0, 4, .inl (fun iX => iI ((fun _ => 0) iX))))]) [0, 1, 2] rfl
  have hD := hD.sub (ws' := [(t, .inr (3, [.int (iI (((rw : Nat) : Int))), .int (iI (((cm : Nat) : Int))), .int (iI (((tr : Nat) : Int))), .int (iI (0)), .int (iI (((ly : Nat) : Int))), .int (iI (((md : Nat) : Int))), .ref aw, .ref ad, .ref ac, .ref ao, .ref ax])), (ad, .inl (G.2 0, 4, .inl (fun iX => iI ((fun _ => 0) iX)))), (ac, .inl (G.2 0, 4, .inl (fun iX => iI ((fun _ => 0) iX))))]) [0, 1, 2] (by decide) rfl
  exact rw_vret hx hb hr hlocks hP hD hS dX3_layRight_21 (⟨rfl, rfl⟩)

def rmX3_replace : Room := { frames := 1, cells := 0, slots := 0, locals := 22 }
set_option maxRecDepth 20000 in
theorem inX3_X3_replace : ∀ w ∈ wsX30, w ∈ wsX3_replace := by decide +kernel
set_option maxHeartbeats 4000000 in
set_option maxRecDepth 100000 in
theorem c_X3_replace (lM : Launch) (G : GG) (sz : Nat) (t rw cm tr : Nat) (cr : Int) (ly md aw ad ac ao ax : Nat) (SH : Nat → Option Nat) (n y : Nat) (kd : Nat) (tp lf : Int) (ht wt cl : Nat) (fn : Bool) (h1 : n < 30) : Met lM yX3_replace wsX3_replace rmX3_replace (rwP G [.ref t, .int (iI (((n : Nat) : Int))), .ref y] [(ax, .inl (G.2 2, 30, .inr (.inr (.inr (.inr SH)))))] [(t, .inr (3, [.int (iI (((rw : Nat) : Int))), .int (iI (((cm : Nat) : Int))), .int (iI (((tr : Nat) : Int))), .int (iI (cr)), .int (iI (((ly : Nat) : Int))), .int (iI (((md : Nat) : Int))), .ref aw, .ref ad, .ref ac, .ref ao, .ref ax])), (y, .inr (2, [.int (iI (((kd : Nat) : Int))), .int (iI (tp)), .int (iI (lf)), .int (iI (((ht : Nat) : Int))), .int (iI (((wt : Nat) : Int))), .int (iI (((cl : Nat) : Int))), .int (iI (b2i fn))]))] sz) (rwA G (va_A [(ax, .inl (G.2 2, 30, .inr (.inr (.inr (.inr SH)))))] sz) (det none [(ax, .inl (G.2 2, 30, .inr (.inr (.inr (.inr (va_up SH n (some y)))))))])) 0 0 (va_A [(ax, .inl (G.2 2, 30, .inr (.inr (.inr (.inr SH)))))] sz) := by
  refine rw_of (cc := cX3_replace) (maxL := 3) (ret := none) (by decide) rfl (Nat.le_of_ble_eq_true rfl) ?_
  intro pM eM sM mM bM tM cM hx hb hr hts hown hlocks hml hin hG A hA hP hD hS hV0 hVA ls hl
  have hown : sM.vm.findClass RX3 = some mM.cls := hown
  have hl : lv_has ls 3 [(0, .ref t), (1, .int (iI (((n : Nat) : Int)))), (2, .ref y)] := hl
  refine lv_iload_n hx hb dX3_replace_0 rfl (lv_at hl 1 rfl) ?_
  refine lv_iconst (v := iI (0)) hx hb dX3_replace_1 rfl ?_
  refine lv_bipush (v := iI (29)) hx hb dX3_replace_2 (by decide) ?_
  refine k_roN (rest := []) [.int (iI (((n : Nat) : Int))), .int (iI (0)), .int (iI (29))] ⟨hx, hb, hml, hown, hts⟩ (c_X4_isWithin lM G ((n : Nat) : Int) 0 29 (by omega) (by omega) (by omega)) ⟨va_cnB 3 hts gX3_replace_X4_isWithin_n55 rfl rfl rfl hG.2.1.1 (hts (.initialized RX4) (by decide +kernel)) (by decide +kernel) ⟨Nat.le_of_ble_eq_true rfl, Nat.le_of_ble_eq_true rfl⟩, hts (.static yX4_isWithin) (by decide +kernel), trivial⟩ hG (fun k q h => by simp at h) rfl rfl hl.1 (Nat.le_of_ble_eq_true rfl) ⟨Nat.zero_le _, Nat.zero_le _⟩ dX3_replace_4 ?_
  refine k_ifD (P := 0 ≤ ((n : Nat) : Int) ∧ ((n : Nat) : Int) ≤ 29) (tgt := 17) hx hb dX3_replace_7 (by decide) (fun c_7 => ?_) (fun c_7 => ?_)
  · exact absurd (show 0 ≤ ((n : Nat) : Int) ∧ ((n : Nat) : Int) ≤ 29 by omega) c_7
  · refine lv_aload_n hx hb dX3_replace_10 rfl (lv_at hl 0 rfl) ?_
    refine va_get (D := G.1) (ci := 3) (v := .ref ax) (C := RX3) (T := TX3) (N := 11) hx hb hts inX3_X3_replace hown hG.1 (rk hV0 hVA hS) 0 rfl rfl 10 (by decide) (hts (.fieldLink RX3 33 "InkOverInk$Sheet" "shapes" "[LInkOverInk$Shape;") (by decide +kernel)) (fun _ h9 => h9) rfl dX3_replace_11 ?_
    refine lv_iload_n hx hb dX3_replace_14 rfl (lv_at hl 1 rfl) ?_
    refine lv_aload_n hx hb dX3_replace_15 rfl (lv_at hl 2 rfl) ?_
    refine k_astR (F := SH) (z := n) hx hb hG hP hD hS 0 2 [(ax, .inl (G.2 2, 30, .inr (.inr (.inr (.inr (va_up SH n (some y)))))))] rfl rfl (shAny hG ((rk hV0 hVA hS).sub (ws' := [(y, .inr (2, [.int (iI (((kd : Nat) : Int))), .int (iI (tp)), .int (iI (lf)), .int (iI (((ht : Nat) : Int))), .int (iI (((wt : Nat) : Int))), .int (iI (((cl : Nat) : Int))), .int (iI (b2i fn))]))]) [1] rfl) rfl) (by omega) (by decide) rfl dX3_replace_16 (fun H locs hP hD hS => ?_)
    exact rw_vret hx hb hr hlocks hP hD hS dX3_replace_17 (⟨rfl, rfl⟩)

set_option maxHeartbeats 4000000 in
set_option maxRecDepth 100000 in
theorem c_X3_replace_0 (lM : Launch) (G : GG) (sz : Nat) (t rw cm tr : Nat) (cr : Int) (ly md aw ad ac ao ax : Nat) (SH : Nat → Option Nat) (n : Nat) (h1 : n < 30) : Met lM yX3_replace wsX3_replace rmX3_replace (rwP G [.ref t, .int (iI (((n : Nat) : Int))), .null] [(ax, .inl (G.2 2, 30, .inr (.inr (.inr (.inr SH)))))] [(t, .inr (3, [.int (iI (((rw : Nat) : Int))), .int (iI (((cm : Nat) : Int))), .int (iI (((tr : Nat) : Int))), .int (iI (cr)), .int (iI (((ly : Nat) : Int))), .int (iI (((md : Nat) : Int))), .ref aw, .ref ad, .ref ac, .ref ao, .ref ax]))] sz) (rwA G (va_A [(ax, .inl (G.2 2, 30, .inr (.inr (.inr (.inr SH)))))] sz) (det none [(ax, .inl (G.2 2, 30, .inr (.inr (.inr (.inr (va_up SH n none))))))])) 0 0 (va_A [(ax, .inl (G.2 2, 30, .inr (.inr (.inr (.inr SH)))))] sz) := by
  refine rw_of (cc := cX3_replace) (maxL := 3) (ret := none) (by decide) rfl (Nat.le_of_ble_eq_true rfl) ?_
  intro pM eM sM mM bM tM cM hx hb hr hts hown hlocks hml hin hG A hA hP hD hS hV0 hVA ls hl
  have hown : sM.vm.findClass RX3 = some mM.cls := hown
  have hl : lv_has ls 3 [(0, .ref t), (1, .int (iI (((n : Nat) : Int)))), (2, .null)] := hl
  refine lv_iload_n hx hb dX3_replace_0 rfl (lv_at hl 1 rfl) ?_
  refine lv_iconst (v := iI (0)) hx hb dX3_replace_1 rfl ?_
  refine lv_bipush (v := iI (29)) hx hb dX3_replace_2 (by decide) ?_
  refine k_roN (rest := []) [.int (iI (((n : Nat) : Int))), .int (iI (0)), .int (iI (29))] ⟨hx, hb, hml, hown, hts⟩ (c_X4_isWithin lM G ((n : Nat) : Int) 0 29 (by omega) (by omega) (by omega)) ⟨va_cnB 3 hts gX3_replace_X4_isWithin_n55 rfl rfl rfl hG.2.1.1 (hts (.initialized RX4) (by decide +kernel)) (by decide +kernel) ⟨Nat.le_of_ble_eq_true rfl, Nat.le_of_ble_eq_true rfl⟩, hts (.static yX4_isWithin) (by decide +kernel), trivial⟩ hG (fun k q h => by simp at h) rfl rfl hl.1 (Nat.le_of_ble_eq_true rfl) ⟨Nat.zero_le _, Nat.zero_le _⟩ dX3_replace_4 ?_
  refine k_ifD (P := 0 ≤ ((n : Nat) : Int) ∧ ((n : Nat) : Int) ≤ 29) (tgt := 17) hx hb dX3_replace_7 (by decide) (fun c_7 => ?_) (fun c_7 => ?_)
  · exact absurd (show 0 ≤ ((n : Nat) : Int) ∧ ((n : Nat) : Int) ≤ 29 by omega) c_7
  · refine lv_aload_n hx hb dX3_replace_10 rfl (lv_at hl 0 rfl) ?_
    refine va_get (D := G.1) (ci := 3) (v := .ref ax) (C := RX3) (T := TX3) (N := 11) hx hb hts inX3_X3_replace hown hG.1 (rk hV0 hVA hS) 0 rfl rfl 10 (by decide) (hts (.fieldLink RX3 33 "InkOverInk$Sheet" "shapes" "[LInkOverInk$Shape;") (by decide +kernel)) (fun _ h9 => h9) rfl dX3_replace_11 ?_
    refine lv_iload_n hx hb dX3_replace_14 rfl (lv_at hl 1 rfl) ?_
    refine lv_aload_nN hx hb dX3_replace_15 rfl (lv_at hl 2 rfl) ?_
    refine k_ast0 (F := SH) (z := n) hx hb hG hP hD hS 0 2 [(ax, .inl (G.2 2, 30, .inr (.inr (.inr (.inr (va_up SH n none))))))] rfl rfl (by omega) (by decide) rfl dX3_replace_16 (fun H locs hP hD hS => ?_)
    exact rw_vret hx hb hr hlocks hP hD hS dX3_replace_17 (⟨rfl, rfl⟩)

def rmX3_add : Room := { frames := 0, cells := 0, slots := 0, locals := 0 }
set_option maxRecDepth 20000 in
theorem inX3_X3_add : ∀ w ∈ wsX30, w ∈ wsX3_add := by decide +kernel
set_option maxHeartbeats 4000000 in
set_option maxRecDepth 100000 in
theorem c_X3_add (lM : Launch) (G : GG) (sz : Nat) (t rw cm tr : Nat) (cr : Int) (ly md aw ad ac ao ax : Nat) (OR : Nat → Nat) (SH : Nat → Option Nat) (y : Nat) (kd : Nat) (tp lf : Int) (ht wt cl : Nat) (fn : Bool) (h1 : md < 30) (h2 : ly < 30) : Met lM yX3_add wsX3_add rmX3_add (rwP G [.ref t, .ref y] [(t, .inr (3, [.int (iI (((rw : Nat) : Int))), .int (iI (((cm : Nat) : Int))), .int (iI (((tr : Nat) : Int))), .int (iI (cr)), .int (iI (((ly : Nat) : Int))), .int (iI (((md : Nat) : Int))), .ref aw, .ref ad, .ref ac, .ref ao, .ref ax])), (ao, .inl (G.2 0, 30, .inl (fun iX => iI ((OR iX : Nat) : Int)))), (ax, .inl (G.2 2, 30, .inr (.inr (.inr (.inr SH)))))] [(y, .inr (2, [.int (iI (((kd : Nat) : Int))), .int (iI (tp)), .int (iI (lf)), .int (iI (((ht : Nat) : Int))), .int (iI (((wt : Nat) : Int))), .int (iI (((cl : Nat) : Int))), .int (iI (b2i fn))]))] sz) (rwA G (va_A [(t, .inr (3, [.int (iI (((rw : Nat) : Int))), .int (iI (((cm : Nat) : Int))), .int (iI (((tr : Nat) : Int))), .int (iI (cr)), .int (iI (((ly : Nat) : Int))), .int (iI (((md : Nat) : Int))), .ref aw, .ref ad, .ref ac, .ref ao, .ref ax])), (ao, .inl (G.2 0, 30, .inl (fun iX => iI ((OR iX : Nat) : Int)))), (ax, .inl (G.2 2, 30, .inr (.inr (.inr (.inr SH)))))] sz) (det (some (.int (iI (((md : Nat) : Int))))) [(t, .inr (3, [.int (iI (((rw : Nat) : Int))), .int (iI (((cm : Nat) : Int))), .int (iI (((tr : Nat) : Int))), .int (iI (cr)), .int (iI (((ly + 1 : Nat) : Int))), .int (iI (((md + 1 : Nat) : Int))), .ref aw, .ref ad, .ref ac, .ref ao, .ref ax])), (ao, .inl (G.2 0, 30, .inl (fun iX => iI (((va_up OR ly md) iX : Nat) : Int)))), (ax, .inl (G.2 2, 30, .inr (.inr (.inr (.inr (va_up SH md (some y)))))))])) 0 0 (va_A [(t, .inr (3, [.int (iI (((rw : Nat) : Int))), .int (iI (((cm : Nat) : Int))), .int (iI (((tr : Nat) : Int))), .int (iI (cr)), .int (iI (((ly : Nat) : Int))), .int (iI (((md : Nat) : Int))), .ref aw, .ref ad, .ref ac, .ref ao, .ref ax])), (ao, .inl (G.2 0, 30, .inl (fun iX => iI ((OR iX : Nat) : Int)))), (ax, .inl (G.2 2, 30, .inr (.inr (.inr (.inr SH)))))] sz) := by
  refine rw_of (cc := cX3_add) (maxL := 3) (ret := (some .int)) (by decide) rfl (Nat.le_of_ble_eq_true rfl) ?_
  intro pM eM sM mM bM tM cM hx hb hr hts hown hlocks hml hin hG A hA hP hD hS hV0 hVA ls hl
  have hown : sM.vm.findClass RX3 = some mM.cls := hown
  have hl : lv_has ls 3 [(0, .ref t), (1, .ref y)] := hl
  refine lv_aload_n hx hb dX3_add_0 rfl (lv_at hl 0 rfl) ?_
  refine va_get (D := G.1) (ci := 3) (v := .int (iI (((md : Nat) : Int)))) (C := RX3) (T := TX3) (N := 11) hx hb hts inX3_X3_add hown hG.1 hP 0 rfl rfl 5 (by decide) (hts (.fieldLink RX3 46 "InkOverInk$Sheet" "made" "I") (by decide +kernel)) (fun _ h9 => h9) rfl dX3_add_1 ?_
  refine lv_bipush (v := iI (30)) hx hb dX3_add_4 (by decide) ?_
  refine k_icmp_ge (a := ((md : Nat) : Int)) (b := 30) (tgt := 18) hx hb (by omega) (by omega) dX3_add_6 (by decide) (fun c_6 => ?_) (fun c_6 => ?_)
  · exact absurd c_6 (by omega)
  · refine lv_aload_n hx hb dX3_add_9 rfl (lv_at hl 0 rfl) ?_
    refine va_get (D := G.1) (ci := 3) (v := .int (iI (((ly : Nat) : Int)))) (C := RX3) (T := TX3) (N := 11) hx hb hts inX3_X3_add hown hG.1 hP 0 rfl rfl 4 (by decide) (hts (.fieldLink RX3 43 "InkOverInk$Sheet" "lying" "I") (by decide +kernel)) (fun _ h9 => h9) rfl dX3_add_10 ?_
    refine lv_bipush (v := iI (30)) hx hb dX3_add_13 (by decide) ?_
    refine k_icmp_lt (a := ((ly : Nat) : Int)) (b := 30) (tgt := 20) hx hb (by omega) (by omega) dX3_add_15 (by decide) (fun c_15 => ?_) (fun c_15 => ?_)
    · refine lv_aload_n hx hb dX3_add_20 rfl (lv_at hl 0 rfl) ?_
      refine va_get (D := G.1) (ci := 3) (v := .int (iI (((md : Nat) : Int)))) (C := RX3) (T := TX3) (N := 11) hx hb hts inX3_X3_add hown hG.1 hP 0 rfl rfl 5 (by decide) (hts (.fieldLink RX3 46 "InkOverInk$Sheet" "made" "I") (by decide +kernel)) (fun _ h9 => h9) rfl dX3_add_21 ?_
      refine lv_istore_n (lv' := [(2, .int (iI (((md : Nat) : Int)))), (0, .ref t), (1, .ref y)]) hx hb dX3_add_24 rfl hl (by decide) rfl (fun ls hl => ?_)
      refine lv_aload_n hx hb dX3_add_25 rfl (lv_at hl 1 rfl) ?_
      refine va_get (D := G.1) (ci := 3) (v := .ref ax) (C := RX3) (T := TX3) (N := 11) hx hb hts inX3_X3_add hown hG.1 hP 0 rfl rfl 10 (by decide) (hts (.fieldLink RX3 33 "InkOverInk$Sheet" "shapes" "[LInkOverInk$Shape;") (by decide +kernel)) (fun _ h9 => h9) rfl dX3_add_26 ?_
      refine lv_iload_n hx hb dX3_add_29 rfl (lv_at hl 0 rfl) ?_
      refine lv_aload_n hx hb dX3_add_30 rfl (lv_at hl 2 rfl) ?_
      refine k_astR (F := SH) (z := md) hx hb hG hP hD hS 2 2 [(t, .inr (3, [.int (iI (((rw : Nat) : Int))), .int (iI (((cm : Nat) : Int))), .int (iI (((tr : Nat) : Int))), .int (iI (cr)), .int (iI (((ly : Nat) : Int))), .int (iI (((md : Nat) : Int))), .ref aw, .ref ad, .ref ac, .ref ao, .ref ax])), (ao, .inl (G.2 0, 30, .inl (fun iX => iI ((OR iX : Nat) : Int)))), (ax, .inl (G.2 2, 30, .inr (.inr (.inr (.inr (va_up SH md (some y)))))))] rfl rfl (shAny hG ((rk hV0 hVA hS).sub (ws' := [(y, .inr (2, [.int (iI (((kd : Nat) : Int))), .int (iI (tp)), .int (iI (lf)), .int (iI (((ht : Nat) : Int))), .int (iI (((wt : Nat) : Int))), .int (iI (((cl : Nat) : Int))), .int (iI (b2i fn))]))]) [0] rfl) rfl) (by omega) (by decide) rfl dX3_add_31 (fun H locs hP hD hS => ?_)
      refine lv_aload_n hx hb dX3_add_32 rfl (lv_at hl 1 rfl) ?_
      refine va_get (D := G.1) (ci := 3) (v := .ref ao) (C := RX3) (T := TX3) (N := 11) hx hb hts inX3_X3_add hown hG.1 hP 0 rfl rfl 9 (by decide) (hts (.fieldLink RX3 28 "InkOverInk$Sheet" "order" "[I") (by decide +kernel)) (fun _ h9 => h9) rfl dX3_add_33 ?_
      refine lv_aload_n hx hb dX3_add_36 rfl (lv_at hl 1 rfl) ?_
      refine va_get (D := G.1) (ci := 3) (v := .int (iI (((ly : Nat) : Int)))) (C := RX3) (T := TX3) (N := 11) hx hb hts inX3_X3_add hown hG.1 hP 0 rfl rfl 4 (by decide) (hts (.fieldLink RX3 43 "InkOverInk$Sheet" "lying" "I") (by decide +kernel)) (fun _ h9 => h9) rfl dX3_add_37 ?_
      refine lv_iload_n hx hb dX3_add_40 rfl (lv_at hl 0 rfl) ?_
      refine k_iastNN (F := OR) (z := ly) (v := md) hx hb hG hP hD hS 1 [(t, .inr (3, [.int (iI (((rw : Nat) : Int))), .int (iI (((cm : Nat) : Int))), .int (iI (((tr : Nat) : Int))), .int (iI (cr)), .int (iI (((ly : Nat) : Int))), .int (iI (((md : Nat) : Int))), .ref aw, .ref ad, .ref ac, .ref ao, .ref ax])), (ao, .inl (G.2 0, 30, .inl (fun iX => iI (((va_up OR ly md) iX : Nat) : Int)))), (ax, .inl (G.2 2, 30, .inr (.inr (.inr (.inr (va_up SH md (some y)))))))] rfl (by omega) (by decide) rfl dX3_add_41 (fun H locs hP hD hS => ?_)
      refine lv_aload_n hx hb dX3_add_42 rfl (lv_at hl 1 rfl) ?_
      refine lv_dup hx hb dX3_add_43 rfl ?_
      refine va_get (D := G.1) (ci := 3) (v := .int (iI (((md : Nat) : Int)))) (C := RX3) (T := TX3) (N := 11) hx hb hts inX3_X3_add hown hG.1 hP 0 rfl rfl 5 (by decide) (hts (.fieldLink RX3 46 "InkOverInk$Sheet" "made" "I") (by decide +kernel)) (fun _ h9 => h9) rfl dX3_add_44 ?_
      refine lv_iconst (v := iI (1)) hx hb dX3_add_47 rfl ?_
      refine k_iaddN (a := md) (b := 1) hx hb dX3_add_48 ?_
      refine va_put (D := G.1) (ci := 3) (v := .int (iI (((md + 1 : Nat) : Int)))) (ty := .int) (C := RX3) (T := TX3) (N := 11) hx hb hts inX3_X3_add tyX3 tyX3_ok nmX3 hown hG.1 hP hD hS 0 rfl rfl 5 (by decide) (hts (.fieldLink RX3 46 "InkOverInk$Sheet" "made" "I") (by decide +kernel)) (fun _ h9 => h9) rfl (by decide +kernel) rfl rfl (Nat.le_of_ble_eq_true rfl) dX3_add_49 (fun H locs hP hD hS => ?_)
      have hP : va_P G.1 vwCl [(t, .inr (3, [.int (iI (((rw : Nat) : Int))), .int (iI (((cm : Nat) : Int))), .int (iI (((tr : Nat) : Int))), .int (iI (cr)), .int (iI (((ly : Nat) : Int))), .int (iI (((md + 1 : Nat) : Int))), .ref aw, .ref ad, .ref ac, .ref ao, .ref ax])), (ao, .inl (G.2 0, 30, .inl (fun iX => iI (((va_up OR ly md) iX : Nat) : Int)))), (ax, .inl (G.2 2, 30, .inr (.inr (.inr (.inr (va_up SH md (some y)))))))] H := hP
      have hD : va_D A [(t, .inr (3, [.int (iI (((rw : Nat) : Int))), .int (iI (((cm : Nat) : Int))), .int (iI (((tr : Nat) : Int))), .int (iI (cr)), .int (iI (((ly : Nat) : Int))), .int (iI (((md + 1 : Nat) : Int))), .ref aw, .ref ad, .ref ac, .ref ao, .ref ax])), (ao, .inl (G.2 0, 30, .inl (fun iX => iI (((va_up OR ly md) iX : Nat) : Int)))), (ax, .inl (G.2 2, 30, .inr (.inr (.inr (.inr (va_up SH md (some y)))))))] := hD
      refine lv_aload_n hx hb dX3_add_52 rfl (lv_at hl 1 rfl) ?_
      refine lv_dup hx hb dX3_add_53 rfl ?_
      refine va_get (D := G.1) (ci := 3) (v := .int (iI (((ly : Nat) : Int)))) (C := RX3) (T := TX3) (N := 11) hx hb hts inX3_X3_add hown hG.1 hP 0 rfl rfl 4 (by decide) (hts (.fieldLink RX3 43 "InkOverInk$Sheet" "lying" "I") (by decide +kernel)) (fun _ h9 => h9) rfl dX3_add_54 ?_
      refine lv_iconst (v := iI (1)) hx hb dX3_add_57 rfl ?_
      refine k_iaddN (a := ly) (b := 1) hx hb dX3_add_58 ?_
      refine va_put (D := G.1) (ci := 3) (v := .int (iI (((ly + 1 : Nat) : Int)))) (ty := .int) (C := RX3) (T := TX3) (N := 11) hx hb hts inX3_X3_add tyX3 tyX3_ok nmX3 hown hG.1 hP hD hS 0 rfl rfl 4 (by decide) (hts (.fieldLink RX3 43 "InkOverInk$Sheet" "lying" "I") (by decide +kernel)) (fun _ h9 => h9) rfl (by decide +kernel) rfl rfl (Nat.le_of_ble_eq_true rfl) dX3_add_59 (fun H locs hP hD hS => ?_)
      have hP : va_P G.1 vwCl [(t, .inr (3, [.int (iI (((rw : Nat) : Int))), .int (iI (((cm : Nat) : Int))), .int (iI (((tr : Nat) : Int))), .int (iI (cr)), .int (iI (((ly + 1 : Nat) : Int))), .int (iI (((md + 1 : Nat) : Int))), .ref aw, .ref ad, .ref ac, .ref ao, .ref ax])), (ao, .inl (G.2 0, 30, .inl (fun iX => iI (((va_up OR ly md) iX : Nat) : Int)))), (ax, .inl (G.2 2, 30, .inr (.inr (.inr (.inr (va_up SH md (some y)))))))] H := hP
      have hD : va_D A [(t, .inr (3, [.int (iI (((rw : Nat) : Int))), .int (iI (((cm : Nat) : Int))), .int (iI (((tr : Nat) : Int))), .int (iI (cr)), .int (iI (((ly + 1 : Nat) : Int))), .int (iI (((md + 1 : Nat) : Int))), .ref aw, .ref ad, .ref ac, .ref ao, .ref ax])), (ao, .inl (G.2 0, 30, .inl (fun iX => iI (((va_up OR ly md) iX : Nat) : Int)))), (ax, .inl (G.2 2, 30, .inr (.inr (.inr (.inr (va_up SH md (some y)))))))] := hD
      refine lv_iload_n hx hb dX3_add_62 rfl (lv_at hl 0 rfl) ?_
      exact rw_iret (a := ((md : Nat) : Int)) hx hb hr hlocks hP hD hS dX3_add_63 (⟨rfl, rfl⟩)
    · exact absurd (show ((ly : Nat) : Int) < 30 by omega) c_15

set_option maxHeartbeats 4000000 in
set_option maxRecDepth 100000 in
theorem c_X3_add_F (lM : Launch) (G : GG) (sz : Nat) (t rw cm tr : Nat) (cr : Int) (ly md aw ad ac ao ax : Nat) (y : Nat) (h1 : md = 30) : Met lM yX3_add wsX3_add rmX3_add (rwP G [.ref t, .ref y] [(t, .inr (3, [.int (iI (((rw : Nat) : Int))), .int (iI (((cm : Nat) : Int))), .int (iI (((tr : Nat) : Int))), .int (iI (cr)), .int (iI (((ly : Nat) : Int))), .int (iI (((md : Nat) : Int))), .ref aw, .ref ad, .ref ac, .ref ao, .ref ax]))] [] sz) (rwA G (va_A [(t, .inr (3, [.int (iI (((rw : Nat) : Int))), .int (iI (((cm : Nat) : Int))), .int (iI (((tr : Nat) : Int))), .int (iI (cr)), .int (iI (((ly : Nat) : Int))), .int (iI (((md : Nat) : Int))), .ref aw, .ref ad, .ref ac, .ref ao, .ref ax]))] sz) (det (some (.int (iI ((-1))))) [(t, .inr (3, [.int (iI (((rw : Nat) : Int))), .int (iI (((cm : Nat) : Int))), .int (iI (((tr : Nat) : Int))), .int (iI (cr)), .int (iI (((ly : Nat) : Int))), .int (iI (((md : Nat) : Int))), .ref aw, .ref ad, .ref ac, .ref ao, .ref ax]))])) 0 0 (va_A [(t, .inr (3, [.int (iI (((rw : Nat) : Int))), .int (iI (((cm : Nat) : Int))), .int (iI (((tr : Nat) : Int))), .int (iI (cr)), .int (iI (((ly : Nat) : Int))), .int (iI (((md : Nat) : Int))), .ref aw, .ref ad, .ref ac, .ref ao, .ref ax]))] sz) := by
  refine rw_of (cc := cX3_add) (maxL := 3) (ret := (some .int)) (by decide) rfl (Nat.le_of_ble_eq_true rfl) ?_
  intro pM eM sM mM bM tM cM hx hb hr hts hown hlocks hml hin hG A hA hP hD hS hV0 hVA ls hl
  have hown : sM.vm.findClass RX3 = some mM.cls := hown
  have hl : lv_has ls 3 [(0, .ref t), (1, .ref y)] := hl
  refine lv_aload_n hx hb dX3_add_0 rfl (lv_at hl 0 rfl) ?_
  refine va_get (D := G.1) (ci := 3) (v := .int (iI (((md : Nat) : Int)))) (C := RX3) (T := TX3) (N := 11) hx hb hts inX3_X3_add hown hG.1 hP 0 rfl rfl 5 (by decide) (hts (.fieldLink RX3 46 "InkOverInk$Sheet" "made" "I") (by decide +kernel)) (fun _ h9 => h9) rfl dX3_add_1 ?_
  refine lv_bipush (v := iI (30)) hx hb dX3_add_4 (by decide) ?_
  refine k_icmp_ge (a := ((md : Nat) : Int)) (b := 30) (tgt := 18) hx hb (by omega) (by omega) dX3_add_6 (by decide) (fun c_6 => ?_) (fun c_6 => ?_)
  · refine lv_iconst (v := iI (-1)) hx hb dX3_add_18 rfl ?_
    exact rw_iret (a := (-1)) hx hb hr hlocks hP hD hS dX3_add_19 (⟨rfl, rfl⟩)
  · exact absurd (show (30 : Int) ≤ ((md : Nat) : Int) by omega) c_6
