def rmX4_shape : Room := { frames := 2, cells := 1, slots := 7, locals := 43 }
set_option maxRecDepth 20000 in
theorem inX2_X4_shape : ∀ w ∈ wsX20, w ∈ wsX4_shape := by decide +kernel
set_option maxRecDepth 20000 in
theorem inX4_X4_shape : ∀ w ∈ wsX40, w ∈ wsX4_shape := by decide +kernel
set_option maxHeartbeats 4000000 in
set_option maxRecDepth 100000 in
theorem c_X4_shape (lM : Launch) (G : GG) (sz : Nat) (x im : Nat) (t rw cm tr : Nat) (cr : Int) (ly md aw ad ac ao ax : Nat) (p sa qo qi qs qp qh dn : Nat) (OR : Nat → Nat) (SH : Nat → Option Nat) (kd : Nat) (tp lf : Int) (ht wt cl : Nat) (fn : Bool) (h1 : kd ≤ 3) (h2 : (-16 ≤ tp ∧ tp ≤ 31) ∧ (-16 ≤ lf ∧ lf ≤ 31)) (h3 : 1 ≤ ht ∧ ht ≤ 32) (h4 : 1 ≤ wt ∧ wt ≤ 32) (h5 : cl < 16) (h6 : dn < 100) (h7 : md < 30) (h8 : ly < 30) : Met lM yX4_shape wsX4_shape rmX4_shape (rwP G [.ref x, .int (iI (((kd : Nat) : Int))), .int (iI (tp)), .int (iI (lf)), .int (iI (((ht : Nat) : Int))), .int (iI (((wt : Nat) : Int))), .int (iI (((cl : Nat) : Int))), .int (iI (b2i fn))] [(t, .inr (3, [.int (iI (((rw : Nat) : Int))), .int (iI (((cm : Nat) : Int))), .int (iI (((tr : Nat) : Int))), .int (iI (cr)), .int (iI (((ly : Nat) : Int))), .int (iI (((md : Nat) : Int))), .ref aw, .ref ad, .ref ac, .ref ao, .ref ax])), (ao, .inl (G.2 0, 30, .inl (fun iX => iI ((OR iX : Nat) : Int)))), (ax, .inl (G.2 2, 30, .inr (.inr (.inr (.inr SH))))), (p, .inr (1, [.ref sa, .ref qo, .ref qi, .ref qs, .ref qp, .ref qh, .int (iI (((dn : Nat) : Int)))]))] [(x, .inr (4, [.ref t, .ref p, .ref im]))] sz) (rwA G (va_A [(t, .inr (3, [.int (iI (((rw : Nat) : Int))), .int (iI (((cm : Nat) : Int))), .int (iI (((tr : Nat) : Int))), .int (iI (cr)), .int (iI (((ly : Nat) : Int))), .int (iI (((md : Nat) : Int))), .ref aw, .ref ad, .ref ac, .ref ao, .ref ax])), (ao, .inl (G.2 0, 30, .inl (fun iX => iI ((OR iX : Nat) : Int)))), (ax, .inl (G.2 2, 30, .inr (.inr (.inr (.inr SH))))), (p, .inr (1, [.ref sa, .ref qo, .ref qi, .ref qs, .ref qp, .ref qh, .int (iI (((dn : Nat) : Int)))]))] sz) (fun o w1 => ∃ q : Nat, o = some (.int (iI (((md : Nat) : Int)))) ∧ w1 = [(t, .inr (3, [.int (iI (((rw : Nat) : Int))), .int (iI (((cm : Nat) : Int))), .int (iI (((tr : Nat) : Int))), .int (iI (cr)), .int (iI (((ly + 1 : Nat) : Int))), .int (iI (((md + 1 : Nat) : Int))), .ref aw, .ref ad, .ref ac, .ref ao, .ref ax])), (ao, .inl (G.2 0, 30, .inl (fun iX => iI (((va_up OR ly md) iX : Nat) : Int)))), (ax, .inl (G.2 2, 30, .inr (.inr (.inr (.inr (va_up SH md (some q))))))), (p, .inr (1, [.ref sa, .ref qo, .ref qi, .ref qs, .ref qp, .ref qh, .int (iI (((min dn 0 : Nat) : Int)))])), (q, .inr (2, [.int (iI (((kd : Nat) : Int))), .int (iI (tp)), .int (iI (lf)), .int (iI (((ht : Nat) : Int))), .int (iI (((wt : Nat) : Int))), .int (iI (((cl : Nat) : Int))), .int (iI (b2i fn))]))])) 1 7 (va_A [(t, .inr (3, [.int (iI (((rw : Nat) : Int))), .int (iI (((cm : Nat) : Int))), .int (iI (((tr : Nat) : Int))), .int (iI (cr)), .int (iI (((ly : Nat) : Int))), .int (iI (((md : Nat) : Int))), .ref aw, .ref ad, .ref ac, .ref ao, .ref ax])), (ao, .inl (G.2 0, 30, .inl (fun iX => iI ((OR iX : Nat) : Int)))), (ax, .inl (G.2 2, 30, .inr (.inr (.inr (.inr SH))))), (p, .inr (1, [.ref sa, .ref qo, .ref qi, .ref qs, .ref qp, .ref qh, .int (iI (((dn : Nat) : Int)))]))] sz) := by
  refine rw_of (cc := cX4_shape) (maxL := 11) (ret := (some .int)) (by decide) rfl (Nat.le_of_ble_eq_true rfl) ?_
  intro pM eM sM mM bM tM cM hx hb hr hts hown hlocks hml hin hG A hA hP hD hS hV0 hVA ls hl
  have hown : sM.vm.findClass RX4 = some mM.cls := hown
  have hl : lv_has ls 11 [(0, .ref x), (1, .int (iI (((kd : Nat) : Int)))), (2, .int (iI (tp))), (3, .int (iI (lf))), (4, .int (iI (((ht : Nat) : Int)))), (5, .int (iI (((wt : Nat) : Int)))), (6, .int (iI (((cl : Nat) : Int)))), (7, .int (iI (b2i fn)))] := hl
  refine lv_iload_n hx hb dX4_shape_0 rfl (lv_at hl 1 rfl) ?_
  refine lv_iconst (v := iI (0)) hx hb dX4_shape_1 rfl ?_
  refine lv_iconst (v := iI (3)) hx hb dX4_shape_2 rfl ?_
  refine k_roS (rest := []) [.int (iI (((kd : Nat) : Int))), .int (iI (0)), .int (iI (3))] ⟨hx, hb, hml, hown, hts⟩ (c_X4_isWithin lM G ((kd : Nat) : Int) 0 3 (by omega) (by omega) (by omega)) (va_cwS 3 hts gX4_shape_X4_isWithin rfl rfl rfl (by decide +kernel) ⟨Nat.le_of_ble_eq_true rfl, Nat.le_of_ble_eq_true rfl⟩) hG (fun k q h => by simp at h) rfl rfl hl.1 (Nat.le_of_ble_eq_true rfl) ⟨Nat.zero_le _, Nat.zero_le _⟩ dX4_shape_3 ?_
  refine k_ifD (P := 0 ≤ ((kd : Nat) : Int) ∧ ((kd : Nat) : Int) ≤ 3) (tgt := 21) hx hb dX4_shape_6 (by decide) (fun c_6 => ?_) (fun c_6 => ?_)
  · exact absurd c_6 (by omega)
  · refine lv_iload hx hb dX4_shape_9 (lv_at hl 6 rfl) ?_
    refine k_roS (rest := []) [.int (iI (((cl : Nat) : Int)))] ⟨hx, hb, hml, hown, hts⟩ (c_X4_isColour lM G ((cl : Nat) : Int) (by omega)) (va_cwS 1 hts gX4_shape_X4_isColour rfl rfl rfl (by decide +kernel) ⟨Nat.le_of_ble_eq_true rfl, Nat.le_of_ble_eq_true rfl⟩) hG (fun k q h => by simp at h) rfl rfl hl.1 (Nat.le_of_ble_eq_true rfl) ⟨Nat.zero_le _, Nat.zero_le _⟩ dX4_shape_11 ?_
    refine k_ifD (P := 0 ≤ ((cl : Nat) : Int) ∧ ((cl : Nat) : Int) ≤ 15) (tgt := 21) hx hb dX4_shape_14 (by decide) (fun c_14 => ?_) (fun c_14 => ?_)
    · exact absurd c_14 (by omega)
    · refine lv_iconst (v := iI (1)) hx hb dX4_shape_17 rfl ?_
      refine lv_goto (tgt := 22) hx hb dX4_shape_18 (by decide) ?_
      refine lv_istore (lv' := [(8, .int (iI (1))), (0, .ref x), (1, .int (iI (((kd : Nat) : Int)))), (2, .int (iI (tp))), (3, .int (iI (lf))), (4, .int (iI (((ht : Nat) : Int)))), (5, .int (iI (((wt : Nat) : Int)))), (6, .int (iI (((cl : Nat) : Int)))), (7, .int (iI (b2i fn)))]) hx hb dX4_shape_22 hl (by decide) rfl (fun ls hl => ?_)
      refine lv_iload hx hb dX4_shape_24 (lv_at hl 5 rfl) ?_
      refine lv_iconst (v := iI (1)) hx hb dX4_shape_26 rfl ?_
      refine lv_bipush (v := iI (32)) hx hb dX4_shape_27 (by decide) ?_
      refine k_roS (rest := []) [.int (iI (((ht : Nat) : Int))), .int (iI (1)), .int (iI (32))] ⟨hx, hb, hml, hown, hts⟩ (c_X4_isWithin lM G ((ht : Nat) : Int) 1 32 (by omega) (by omega) (by omega)) (va_cwS 3 hts gX4_shape_X4_isWithin rfl rfl rfl (by decide +kernel) ⟨Nat.le_of_ble_eq_true rfl, Nat.le_of_ble_eq_true rfl⟩) hG (fun k q h => by simp at h) rfl rfl hl.1 (Nat.le_of_ble_eq_true rfl) ⟨Nat.zero_le _, Nat.zero_le _⟩ dX4_shape_29 ?_
      refine k_ifD (P := 1 ≤ ((ht : Nat) : Int) ∧ ((ht : Nat) : Int) ≤ 32) (tgt := 50) hx hb dX4_shape_32 (by decide) (fun c_32 => ?_) (fun c_32 => ?_)
      · exact absurd c_32 (by omega)
      · refine lv_iload hx hb dX4_shape_35 (lv_at hl 6 rfl) ?_
        refine lv_iconst (v := iI (1)) hx hb dX4_shape_37 rfl ?_
        refine lv_bipush (v := iI (32)) hx hb dX4_shape_38 (by decide) ?_
        refine k_roS (rest := []) [.int (iI (((wt : Nat) : Int))), .int (iI (1)), .int (iI (32))] ⟨hx, hb, hml, hown, hts⟩ (c_X4_isWithin lM G ((wt : Nat) : Int) 1 32 (by omega) (by omega) (by omega)) (va_cwS 3 hts gX4_shape_X4_isWithin rfl rfl rfl (by decide +kernel) ⟨Nat.le_of_ble_eq_true rfl, Nat.le_of_ble_eq_true rfl⟩) hG (fun k q h => by simp at h) rfl rfl hl.1 (Nat.le_of_ble_eq_true rfl) ⟨Nat.zero_le _, Nat.zero_le _⟩ dX4_shape_40 ?_
        refine k_ifD (P := 1 ≤ ((wt : Nat) : Int) ∧ ((wt : Nat) : Int) ≤ 32) (tgt := 50) hx hb dX4_shape_43 (by decide) (fun c_43 => ?_) (fun c_43 => ?_)
        · exact absurd c_43 (by omega)
        · refine lv_iconst (v := iI (1)) hx hb dX4_shape_46 rfl ?_
          refine lv_goto (tgt := 51) hx hb dX4_shape_47 (by decide) ?_
          refine lv_istore (lv' := [(9, .int (iI (1))), (8, .int (iI (1))), (0, .ref x), (1, .int (iI (((kd : Nat) : Int)))), (2, .int (iI (tp))), (3, .int (iI (lf))), (4, .int (iI (((ht : Nat) : Int)))), (5, .int (iI (((wt : Nat) : Int)))), (6, .int (iI (((cl : Nat) : Int)))), (7, .int (iI (b2i fn)))]) hx hb dX4_shape_51 hl (by decide) rfl (fun ls hl => ?_)
          refine lv_iload hx hb dX4_shape_53 (lv_at hl 1 rfl) ?_
          refine k_if_eq (a := 1) (tgt := 71) hx hb (by omega) dX4_shape_55 (by decide) (fun c_55 => ?_) (fun c_55 => ?_)
          · exact absurd c_55 (by decide)
          · refine lv_iload hx hb dX4_shape_58 (lv_at hl 0 rfl) ?_
            refine k_if_eq (a := 1) (tgt := 71) hx hb (by omega) dX4_shape_60 (by decide) (fun c_60 => ?_) (fun c_60 => ?_)
            · exact absurd c_60 (by decide)
            · refine lv_iload_n hx hb dX4_shape_63 rfl (lv_at hl 4 rfl) ?_
              refine lv_iload_n hx hb dX4_shape_64 rfl (lv_at hl 5 rfl) ?_
              refine k_roS (rest := []) [.int (iI (tp)), .int (iI (lf))] ⟨hx, hb, hml, hown, hts⟩ (c_X4_isPlace lM G tp lf (by omega) (by omega)) (va_cwS 2 hts gX4_shape_X4_isPlace rfl rfl rfl (by decide +kernel) ⟨Nat.le_of_ble_eq_true rfl, Nat.le_of_ble_eq_true rfl⟩) hG (fun k q h => by simp at h) rfl rfl hl.1 (Nat.le_of_ble_eq_true rfl) ⟨Nat.zero_le _, Nat.zero_le _⟩ dX4_shape_65 ?_
              refine k_ifnD (P := (-16 ≤ tp ∧ tp ≤ 31) ∧ (-16 ≤ lf ∧ lf ≤ 31)) (tgt := 73) hx hb dX4_shape_68 (by decide) (fun c_68 => ?_) (fun c_68 => ?_)
              · refine lv_aload_n hx hb dX4_shape_73 rfl (lv_at hl 2 rfl) ?_
                refine va_get (D := G.1) (ci := 4) (v := .ref t) (C := RX4) (T := TX4) (N := 3) hx hb hts inX4_X4_shape hown hG.1 (rk hV0 hVA hS) 0 rfl rfl 0 (by decide) (hts (.fieldLink RX4 10 "InkOverInk" "now" "LInkOverInk$Sheet;") (by decide +kernel)) (fun _ h9 => h9) rfl dX4_shape_74 ?_
                refine va_new (ci := 2) (fs := [.int (iI (0)), .int (iI (0)), .int (iI (0)), .int (iI (0)), .int (iI (0)), .int (iI (0)), .int (iI (b2i false))]) (C := RX2) (T := TX2) (N := 7) hx hb hts inX2_X4_shape tyX2 tyX2_ok hown (hts (.classLink RX4 57 RX2) (by decide +kernel)) (hts (.instantiable RX2 7) (by decide +kernel)) (hts (.initialized RX2) (by decide +kernel)) hG.1 hP hD hS hA rfl (fun j hj => by rcases (show j = 0 ∨ j = 1 ∨ j = 2 ∨ j = 3 ∨ j = 4 ∨ j = 5 ∨ j = 6 by omega) with rfl | rfl | rfl | rfl | rfl | rfl | rfl <;> rfl) (Nat.le_of_ble_eq_true rfl) (Nat.le_of_ble_eq_true rfl) dX4_shape_77 (fun q_77 H hP hD hS => ?_)
                have hP : va_P G.1 vwCl [(t, .inr (3, [.int (iI (((rw : Nat) : Int))), .int (iI (((cm : Nat) : Int))), .int (iI (((tr : Nat) : Int))), .int (iI (cr)), .int (iI (((ly : Nat) : Int))), .int (iI (((md : Nat) : Int))), .ref aw, .ref ad, .ref ac, .ref ao, .ref ax])), (ao, .inl (G.2 0, 30, .inl (fun iX => iI ((OR iX : Nat) : Int)))), (ax, .inl (G.2 2, 30, .inr (.inr (.inr (.inr SH))))), (p, .inr (1, [.ref sa, .ref qo, .ref qi, .ref qs, .ref qp, .ref qh, .int (iI (((dn : Nat) : Int)))])), (q_77, .inr (2, [.int (iI (0)), .int (iI (0)), .int (iI (0)), .int (iI (0)), .int (iI (0)), .int (iI (0)), .int (iI (b2i false))]))] H := hP
                have hD : va_D A [(t, .inr (3, [.int (iI (((rw : Nat) : Int))), .int (iI (((cm : Nat) : Int))), .int (iI (((tr : Nat) : Int))), .int (iI (cr)), .int (iI (((ly : Nat) : Int))), .int (iI (((md : Nat) : Int))), .ref aw, .ref ad, .ref ac, .ref ao, .ref ax])), (ao, .inl (G.2 0, 30, .inl (fun iX => iI ((OR iX : Nat) : Int)))), (ax, .inl (G.2 2, 30, .inr (.inr (.inr (.inr SH))))), (p, .inr (1, [.ref sa, .ref qo, .ref qi, .ref qs, .ref qp, .ref qh, .int (iI (((dn : Nat) : Int)))])), (q_77, .inr (2, [.int (iI (0)), .int (iI (0)), .int (iI (0)), .int (iI (0)), .int (iI (0)), .int (iI (0)), .int (iI (b2i false))]))] := hD
                refine W.widen (k := 1) (n := 7) (by decide) (by decide) ?_
                refine lv_dup hx hb dX4_shape_80 rfl ?_
                refine lv_iload_n hx hb dX4_shape_81 rfl (lv_at hl 3 rfl) ?_
                refine lv_iload_n hx hb dX4_shape_82 rfl (lv_at hl 4 rfl) ?_
                refine lv_iload_n hx hb dX4_shape_83 rfl (lv_at hl 5 rfl) ?_
                refine lv_iload hx hb dX4_shape_84 (lv_at hl 6 rfl) ?_
                refine lv_iload hx hb dX4_shape_86 (lv_at hl 7 rfl) ?_
                refine lv_iload hx hb dX4_shape_88 (lv_at hl 8 rfl) ?_
                refine lv_iload hx hb dX4_shape_90 (lv_at hl 9 rfl) ?_
                refine k_rwI (rest := [.ref q_77, .ref t]) (wr := [(t, .inr (3, [.int (iI (((rw : Nat) : Int))), .int (iI (((cm : Nat) : Int))), .int (iI (((tr : Nat) : Int))), .int (iI (cr)), .int (iI (((ly : Nat) : Int))), .int (iI (((md : Nat) : Int))), .ref aw, .ref ad, .ref ac, .ref ao, .ref ax])), (ao, .inl (G.2 0, 30, .inl (fun iX => iI ((OR iX : Nat) : Int)))), (ax, .inl (G.2 2, 30, .inr (.inr (.inr (.inr SH))))), (p, .inr (1, [.ref sa, .ref qo, .ref qi, .ref qs, .ref qp, .ref qh, .int (iI (((dn : Nat) : Int)))]))]) (w := [(q_77, .inr (2, [.int (iI (0)), .int (iI (0)), .int (iI (0)), .int (iI (0)), .int (iI (0)), .int (iI (0)), .int (iI (b2i false))]))]) (v := []) [.int (iI (((kd : Nat) : Int))), .int (iI (tp)), .int (iI (lf)), .int (iI (((ht : Nat) : Int))), .int (iI (((wt : Nat) : Int))), .int (iI (((cl : Nat) : Int))), .int (iI (b2i fn))] ⟨hx, hb, hml, hown, hts⟩ (c_X2_init lM G H.size q_77 kd tp lf ht wt cl fn ) (cwI 7 hts gX4_shape_X2_init rfl rfl rfl (hts (.initialized RX2) (by decide +kernel)) (hts (.methodLink RX4 59 yX2_init) (by decide +kernel)) (hts (.instanceMethod yX2_init) (by decide +kernel)) rfl (by decide +kernel) ⟨Nat.le_of_ble_eq_true rfl, Nat.le_of_ble_eq_true rfl⟩) hG hP hD hS hA [4] [0, 1, 2, 3] rfl rfl (by decide) (fun k q h => by simp at h) ap_nil rfl rfl hl.1 (Nat.le_of_ble_eq_true rfl) ⟨Nat.le_of_ble_eq_true rfl, Nat.le_of_ble_eq_true rfl⟩ dX4_shape_92 (fun o9 w9 H locs h9 hP hD hS => ?_)
                obtain ⟨rfl, rfl⟩ := h9
                have hP := hP.sub (ws' := [(t, .inr (3, [.int (iI (((rw : Nat) : Int))), .int (iI (((cm : Nat) : Int))), .int (iI (((tr : Nat) : Int))), .int (iI (cr)), .int (iI (((ly : Nat) : Int))), .int (iI (((md : Nat) : Int))), .ref aw, .ref ad, .ref ac, .ref ao, .ref ax])), (ao, .inl (G.2 0, 30, .inl (fun iX => iI ((OR iX : Nat) : Int)))), (ax, .inl (G.2 2, 30, .inr (.inr (.inr (.inr SH))))), (p, .inr (1, [.ref sa, .ref qo, .ref qi, .ref qs, .ref qp, .ref qh, .int (iI (((dn : Nat) : Int)))])), (q_77, .inr (2, [.int (iI (((kd : Nat) : Int))), .int (iI (tp)), .int (iI (lf)), .int (iI (((ht : Nat) : Int))), .int (iI (((wt : Nat) : Int))), .int (iI (((cl : Nat) : Int))), .int (iI (b2i fn))]))]) [0, 1, 2, 3, 4] rfl
                have hD := hD.sub (ws' := [(t, .inr (3, [.int (iI (((rw : Nat) : Int))), .int (iI (((cm : Nat) : Int))), .int (iI (((tr : Nat) : Int))), .int (iI (cr)), .int (iI (((ly : Nat) : Int))), .int (iI (((md : Nat) : Int))), .ref aw, .ref ad, .ref ac, .ref ao, .ref ax])), (ao, .inl (G.2 0, 30, .inl (fun iX => iI ((OR iX : Nat) : Int)))), (ax, .inl (G.2 2, 30, .inr (.inr (.inr (.inr SH))))), (p, .inr (1, [.ref sa, .ref qo, .ref qi, .ref qs, .ref qp, .ref qh, .int (iI (((dn : Nat) : Int)))])), (q_77, .inr (2, [.int (iI (((kd : Nat) : Int))), .int (iI (tp)), .int (iI (lf)), .int (iI (((ht : Nat) : Int))), .int (iI (((wt : Nat) : Int))), .int (iI (((cl : Nat) : Int))), .int (iI (b2i fn))]))]) [0, 1, 2, 3, 4] (by decide) rfl
                refine k_rwV (rest := []) (wr := [(p, .inr (1, [.ref sa, .ref qo, .ref qi, .ref qs, .ref qp, .ref qh, .int (iI (((dn : Nat) : Int)))])), (q_77, .inr (2, [.int (iI (((kd : Nat) : Int))), .int (iI (tp)), .int (iI (lf)), .int (iI (((ht : Nat) : Int))), .int (iI (((wt : Nat) : Int))), .int (iI (((cl : Nat) : Int))), .int (iI (b2i fn))]))]) (w := [(t, .inr (3, [.int (iI (((rw : Nat) : Int))), .int (iI (((cm : Nat) : Int))), .int (iI (((tr : Nat) : Int))), .int (iI (cr)), .int (iI (((ly : Nat) : Int))), .int (iI (((md : Nat) : Int))), .ref aw, .ref ad, .ref ac, .ref ao, .ref ax])), (ao, .inl (G.2 0, 30, .inl (fun iX => iI ((OR iX : Nat) : Int)))), (ax, .inl (G.2 2, 30, .inr (.inr (.inr (.inr SH)))))]) (v := [(q_77, .inr (2, [.int (iI (((kd : Nat) : Int))), .int (iI (tp)), .int (iI (lf)), .int (iI (((ht : Nat) : Int))), .int (iI (((wt : Nat) : Int))), .int (iI (((cl : Nat) : Int))), .int (iI (b2i fn))]))]) [.ref q_77] ⟨hx, hb, hml, hown, hts⟩ (c_X3_add lM G H.size t rw cm tr cr ly md aw ad ac ao ax OR SH q_77 kd tp lf ht wt cl fn (by omega) (by omega)) (cwV 1 hts gX4_shape_X3_add rfl rfl rfl (by decide +kernel) ⟨Nat.le_of_ble_eq_true rfl, Nat.le_of_ble_eq_true rfl⟩) hG (va_recv hG.1 hP (ci := 3) (q0 := 0) rfl rfl) hP hD hS hA [0, 1, 2] [3, 4] rfl rfl (by decide) (hP.sub (ws' := [(q_77, .inr (2, [.int (iI (((kd : Nat) : Int))), .int (iI (tp)), .int (iI (lf)), .int (iI (((ht : Nat) : Int))), .int (iI (((wt : Nat) : Int))), .int (iI (((cl : Nat) : Int))), .int (iI (b2i fn))]))]) [4] rfl) (ap_own (v' := [(q_77, .inr (2, [.int (iI (((kd : Nat) : Int))), .int (iI (tp)), .int (iI (lf)), .int (iI (((ht : Nat) : Int))), .int (iI (((wt : Nat) : Int))), .int (iI (((cl : Nat) : Int))), .int (iI (b2i fn))]))]) hD [0, 1, 2] [4] rfl rfl (by decide)) rfl rfl hl.1 (Nat.le_of_ble_eq_true rfl) ⟨Nat.le_of_ble_eq_true rfl, Nat.le_of_ble_eq_true rfl⟩ dX4_shape_95 (fun o9 w9 H locs h9 hP hD hS => ?_)
                obtain ⟨rfl, rfl⟩ := h9
                have hP := hP.sub (ws' := [(t, .inr (3, [.int (iI (((rw : Nat) : Int))), .int (iI (((cm : Nat) : Int))), .int (iI (((tr : Nat) : Int))), .int (iI (cr)), .int (iI (((ly + 1 : Nat) : Int))), .int (iI (((md + 1 : Nat) : Int))), .ref aw, .ref ad, .ref ac, .ref ao, .ref ax])), (ao, .inl (G.2 0, 30, .inl (fun iX => iI (((va_up OR ly md) iX : Nat) : Int)))), (ax, .inl (G.2 2, 30, .inr (.inr (.inr (.inr (va_up SH md (some q_77))))))), (p, .inr (1, [.ref sa, .ref qo, .ref qi, .ref qs, .ref qp, .ref qh, .int (iI (((dn : Nat) : Int)))])), (q_77, .inr (2, [.int (iI (((kd : Nat) : Int))), .int (iI (tp)), .int (iI (lf)), .int (iI (((ht : Nat) : Int))), .int (iI (((wt : Nat) : Int))), .int (iI (((cl : Nat) : Int))), .int (iI (b2i fn))]))]) [2, 3, 4, 0, 1] rfl
                have hD := hD.sub (ws' := [(t, .inr (3, [.int (iI (((rw : Nat) : Int))), .int (iI (((cm : Nat) : Int))), .int (iI (((tr : Nat) : Int))), .int (iI (cr)), .int (iI (((ly + 1 : Nat) : Int))), .int (iI (((md + 1 : Nat) : Int))), .ref aw, .ref ad, .ref ac, .ref ao, .ref ax])), (ao, .inl (G.2 0, 30, .inl (fun iX => iI (((va_up OR ly md) iX : Nat) : Int)))), (ax, .inl (G.2 2, 30, .inr (.inr (.inr (.inr (va_up SH md (some q_77))))))), (p, .inr (1, [.ref sa, .ref qo, .ref qi, .ref qs, .ref qp, .ref qh, .int (iI (((dn : Nat) : Int)))])), (q_77, .inr (2, [.int (iI (((kd : Nat) : Int))), .int (iI (tp)), .int (iI (lf)), .int (iI (((ht : Nat) : Int))), .int (iI (((wt : Nat) : Int))), .int (iI (((cl : Nat) : Int))), .int (iI (b2i fn))]))]) [2, 3, 4, 0, 1] (by decide) rfl
                refine lv_istore (lv' := [(10, .int (iI (((md : Nat) : Int)))), (9, .int (iI (1))), (8, .int (iI (1))), (0, .ref x), (1, .int (iI (((kd : Nat) : Int)))), (2, .int (iI (tp))), (3, .int (iI (lf))), (4, .int (iI (((ht : Nat) : Int)))), (5, .int (iI (((wt : Nat) : Int)))), (6, .int (iI (((cl : Nat) : Int)))), (7, .int (iI (b2i fn)))]) hx hb dX4_shape_98 hl (by decide) rfl (fun ls hl => ?_)
                refine lv_aload_n hx hb dX4_shape_100 rfl (lv_at hl 3 rfl) ?_
                refine va_get (D := G.1) (ci := 4) (v := .ref p) (C := RX4) (T := TX4) (N := 3) hx hb hts inX4_X4_shape hown hG.1 (rk hV0 hVA hS) 0 rfl rfl 1 (by decide) (hts (.fieldLink RX4 19 "InkOverInk" "press" "LInkOverInk$Press;") (by decide +kernel)) (fun _ h9 => h9) rfl dX4_shape_101 ?_
                refine lv_iconst (v := iI (0)) hx hb dX4_shape_104 rfl ?_
                refine k_rwV (rest := []) (wr := [(t, .inr (3, [.int (iI (((rw : Nat) : Int))), .int (iI (((cm : Nat) : Int))), .int (iI (((tr : Nat) : Int))), .int (iI (cr)), .int (iI (((ly + 1 : Nat) : Int))), .int (iI (((md + 1 : Nat) : Int))), .ref aw, .ref ad, .ref ac, .ref ao, .ref ax])), (ao, .inl (G.2 0, 30, .inl (fun iX => iI (((va_up OR ly md) iX : Nat) : Int)))), (ax, .inl (G.2 2, 30, .inr (.inr (.inr (.inr (va_up SH md (some q_77))))))), (q_77, .inr (2, [.int (iI (((kd : Nat) : Int))), .int (iI (tp)), .int (iI (lf)), .int (iI (((ht : Nat) : Int))), .int (iI (((wt : Nat) : Int))), .int (iI (((cl : Nat) : Int))), .int (iI (b2i fn))]))]) (w := [(p, .inr (1, [.ref sa, .ref qo, .ref qi, .ref qs, .ref qp, .ref qh, .int (iI (((dn : Nat) : Int)))]))]) (v := []) [.int (iI (0))] ⟨hx, hb, hml, hown, hts⟩ (c_X1_keepOnly lM G H.size p sa qo qi qs qp qh dn 0 (by omega) (by omega)) (cwV 1 hts gX4_shape_X1_keepOnly rfl rfl rfl (by decide +kernel) ⟨Nat.le_of_ble_eq_true rfl, Nat.le_of_ble_eq_true rfl⟩) hG (va_recv hG.1 hP (ci := 1) (q0 := 3) rfl rfl) hP hD hS hA [3] [0, 1, 2, 4] rfl rfl (by decide) (fun k q h => by simp at h) ap_nil rfl rfl hl.1 (Nat.le_of_ble_eq_true rfl) ⟨Nat.le_of_ble_eq_true rfl, Nat.le_of_ble_eq_true rfl⟩ dX4_shape_105 (fun o9 w9 H locs h9 hP hD hS => ?_)
                obtain ⟨rfl, rfl⟩ := h9
                have hP := hP.sub (ws' := [(t, .inr (3, [.int (iI (((rw : Nat) : Int))), .int (iI (((cm : Nat) : Int))), .int (iI (((tr : Nat) : Int))), .int (iI (cr)), .int (iI (((ly + 1 : Nat) : Int))), .int (iI (((md + 1 : Nat) : Int))), .ref aw, .ref ad, .ref ac, .ref ao, .ref ax])), (ao, .inl (G.2 0, 30, .inl (fun iX => iI (((va_up OR ly md) iX : Nat) : Int)))), (ax, .inl (G.2 2, 30, .inr (.inr (.inr (.inr (va_up SH md (some q_77))))))), (p, .inr (1, [.ref sa, .ref qo, .ref qi, .ref qs, .ref qp, .ref qh, .int (iI (((min dn 0 : Nat) : Int)))])), (q_77, .inr (2, [.int (iI (((kd : Nat) : Int))), .int (iI (tp)), .int (iI (lf)), .int (iI (((ht : Nat) : Int))), .int (iI (((wt : Nat) : Int))), .int (iI (((cl : Nat) : Int))), .int (iI (b2i fn))]))]) [0, 1, 2, 4, 3] rfl
                have hD := hD.sub (ws' := [(t, .inr (3, [.int (iI (((rw : Nat) : Int))), .int (iI (((cm : Nat) : Int))), .int (iI (((tr : Nat) : Int))), .int (iI (cr)), .int (iI (((ly + 1 : Nat) : Int))), .int (iI (((md + 1 : Nat) : Int))), .ref aw, .ref ad, .ref ac, .ref ao, .ref ax])), (ao, .inl (G.2 0, 30, .inl (fun iX => iI (((va_up OR ly md) iX : Nat) : Int)))), (ax, .inl (G.2 2, 30, .inr (.inr (.inr (.inr (va_up SH md (some q_77))))))), (p, .inr (1, [.ref sa, .ref qo, .ref qi, .ref qs, .ref qp, .ref qh, .int (iI (((min dn 0 : Nat) : Int)))])), (q_77, .inr (2, [.int (iI (((kd : Nat) : Int))), .int (iI (tp)), .int (iI (lf)), .int (iI (((ht : Nat) : Int))), .int (iI (((wt : Nat) : Int))), .int (iI (((cl : Nat) : Int))), .int (iI (b2i fn))]))]) [0, 1, 2, 4, 3] (by decide) rfl
                refine lv_iload hx hb dX4_shape_108 (lv_at hl 0 rfl) ?_
                exact rw_iret (a := ((md : Nat) : Int)) hx hb hr hlocks hP hD hS dX4_shape_110 (⟨q_77, rfl, rfl⟩)
              · exact absurd h2 c_68

set_option maxHeartbeats 4000000 in
set_option maxRecDepth 100000 in
theorem c_X4_shape_F (lM : Launch) (G : GG) (sz : Nat) (x im : Nat) (t rw cm tr : Nat) (cr : Int) (ly md aw ad ac ao ax : Nat) (p sa qo qi qs qp qh dn : Nat) (kd : Nat) (tp lf : Int) (ht wt cl : Nat) (fn : Bool) (h1 : kd ≤ 3) (h2 : (-16 ≤ tp ∧ tp ≤ 31) ∧ (-16 ≤ lf ∧ lf ≤ 31)) (h3 : 1 ≤ ht ∧ ht ≤ 32) (h4 : 1 ≤ wt ∧ wt ≤ 32) (h5 : cl < 16) (h6 : dn < 100) (h7 : md = 30) : Met lM yX4_shape wsX4_shape rmX4_shape (rwP G [.ref x, .int (iI (((kd : Nat) : Int))), .int (iI (tp)), .int (iI (lf)), .int (iI (((ht : Nat) : Int))), .int (iI (((wt : Nat) : Int))), .int (iI (((cl : Nat) : Int))), .int (iI (b2i fn))] [(t, .inr (3, [.int (iI (((rw : Nat) : Int))), .int (iI (((cm : Nat) : Int))), .int (iI (((tr : Nat) : Int))), .int (iI (cr)), .int (iI (((ly : Nat) : Int))), .int (iI (((md : Nat) : Int))), .ref aw, .ref ad, .ref ac, .ref ao, .ref ax])), (p, .inr (1, [.ref sa, .ref qo, .ref qi, .ref qs, .ref qp, .ref qh, .int (iI (((dn : Nat) : Int)))]))] [(x, .inr (4, [.ref t, .ref p, .ref im]))] sz) (rwA G (va_A [(t, .inr (3, [.int (iI (((rw : Nat) : Int))), .int (iI (((cm : Nat) : Int))), .int (iI (((tr : Nat) : Int))), .int (iI (cr)), .int (iI (((ly : Nat) : Int))), .int (iI (((md : Nat) : Int))), .ref aw, .ref ad, .ref ac, .ref ao, .ref ax])), (p, .inr (1, [.ref sa, .ref qo, .ref qi, .ref qs, .ref qp, .ref qh, .int (iI (((dn : Nat) : Int)))]))] sz) (fun o w1 => ∃ q : Nat, o = some (.int (iI ((-1)))) ∧ w1 = [(t, .inr (3, [.int (iI (((rw : Nat) : Int))), .int (iI (((cm : Nat) : Int))), .int (iI (((tr : Nat) : Int))), .int (iI (cr)), .int (iI (((ly : Nat) : Int))), .int (iI (((md : Nat) : Int))), .ref aw, .ref ad, .ref ac, .ref ao, .ref ax])), (p, .inr (1, [.ref sa, .ref qo, .ref qi, .ref qs, .ref qp, .ref qh, .int (iI (((min dn 0 : Nat) : Int)))])), (q, .inr (2, [.int (iI (((kd : Nat) : Int))), .int (iI (tp)), .int (iI (lf)), .int (iI (((ht : Nat) : Int))), .int (iI (((wt : Nat) : Int))), .int (iI (((cl : Nat) : Int))), .int (iI (b2i fn))]))])) 1 7 (va_A [(t, .inr (3, [.int (iI (((rw : Nat) : Int))), .int (iI (((cm : Nat) : Int))), .int (iI (((tr : Nat) : Int))), .int (iI (cr)), .int (iI (((ly : Nat) : Int))), .int (iI (((md : Nat) : Int))), .ref aw, .ref ad, .ref ac, .ref ao, .ref ax])), (p, .inr (1, [.ref sa, .ref qo, .ref qi, .ref qs, .ref qp, .ref qh, .int (iI (((dn : Nat) : Int)))]))] sz) := by
  refine rw_of (cc := cX4_shape) (maxL := 11) (ret := (some .int)) (by decide) rfl (Nat.le_of_ble_eq_true rfl) ?_
  intro pM eM sM mM bM tM cM hx hb hr hts hown hlocks hml hin hG A hA hP hD hS hV0 hVA ls hl
  have hown : sM.vm.findClass RX4 = some mM.cls := hown
  have hl : lv_has ls 11 [(0, .ref x), (1, .int (iI (((kd : Nat) : Int)))), (2, .int (iI (tp))), (3, .int (iI (lf))), (4, .int (iI (((ht : Nat) : Int)))), (5, .int (iI (((wt : Nat) : Int)))), (6, .int (iI (((cl : Nat) : Int)))), (7, .int (iI (b2i fn)))] := hl
  refine lv_iload_n hx hb dX4_shape_0 rfl (lv_at hl 1 rfl) ?_
  refine lv_iconst (v := iI (0)) hx hb dX4_shape_1 rfl ?_
  refine lv_iconst (v := iI (3)) hx hb dX4_shape_2 rfl ?_
  refine k_roS (rest := []) [.int (iI (((kd : Nat) : Int))), .int (iI (0)), .int (iI (3))] ⟨hx, hb, hml, hown, hts⟩ (c_X4_isWithin lM G ((kd : Nat) : Int) 0 3 (by omega) (by omega) (by omega)) (va_cwS 3 hts gX4_shape_X4_isWithin rfl rfl rfl (by decide +kernel) ⟨Nat.le_of_ble_eq_true rfl, Nat.le_of_ble_eq_true rfl⟩) hG (fun k q h => by simp at h) rfl rfl hl.1 (Nat.le_of_ble_eq_true rfl) ⟨Nat.zero_le _, Nat.zero_le _⟩ dX4_shape_3 ?_
  refine k_ifD (P := 0 ≤ ((kd : Nat) : Int) ∧ ((kd : Nat) : Int) ≤ 3) (tgt := 21) hx hb dX4_shape_6 (by decide) (fun c_6 => ?_) (fun c_6 => ?_)
  · exact absurd c_6 (by omega)
  · refine lv_iload hx hb dX4_shape_9 (lv_at hl 6 rfl) ?_
    refine k_roS (rest := []) [.int (iI (((cl : Nat) : Int)))] ⟨hx, hb, hml, hown, hts⟩ (c_X4_isColour lM G ((cl : Nat) : Int) (by omega)) (va_cwS 1 hts gX4_shape_X4_isColour rfl rfl rfl (by decide +kernel) ⟨Nat.le_of_ble_eq_true rfl, Nat.le_of_ble_eq_true rfl⟩) hG (fun k q h => by simp at h) rfl rfl hl.1 (Nat.le_of_ble_eq_true rfl) ⟨Nat.zero_le _, Nat.zero_le _⟩ dX4_shape_11 ?_
    refine k_ifD (P := 0 ≤ ((cl : Nat) : Int) ∧ ((cl : Nat) : Int) ≤ 15) (tgt := 21) hx hb dX4_shape_14 (by decide) (fun c_14 => ?_) (fun c_14 => ?_)
    · exact absurd c_14 (by omega)
    · refine lv_iconst (v := iI (1)) hx hb dX4_shape_17 rfl ?_
      refine lv_goto (tgt := 22) hx hb dX4_shape_18 (by decide) ?_
      refine lv_istore (lv' := [(8, .int (iI (1))), (0, .ref x), (1, .int (iI (((kd : Nat) : Int)))), (2, .int (iI (tp))), (3, .int (iI (lf))), (4, .int (iI (((ht : Nat) : Int)))), (5, .int (iI (((wt : Nat) : Int)))), (6, .int (iI (((cl : Nat) : Int)))), (7, .int (iI (b2i fn)))]) hx hb dX4_shape_22 hl (by decide) rfl (fun ls hl => ?_)
      refine lv_iload hx hb dX4_shape_24 (lv_at hl 5 rfl) ?_
      refine lv_iconst (v := iI (1)) hx hb dX4_shape_26 rfl ?_
      refine lv_bipush (v := iI (32)) hx hb dX4_shape_27 (by decide) ?_
      refine k_roS (rest := []) [.int (iI (((ht : Nat) : Int))), .int (iI (1)), .int (iI (32))] ⟨hx, hb, hml, hown, hts⟩ (c_X4_isWithin lM G ((ht : Nat) : Int) 1 32 (by omega) (by omega) (by omega)) (va_cwS 3 hts gX4_shape_X4_isWithin rfl rfl rfl (by decide +kernel) ⟨Nat.le_of_ble_eq_true rfl, Nat.le_of_ble_eq_true rfl⟩) hG (fun k q h => by simp at h) rfl rfl hl.1 (Nat.le_of_ble_eq_true rfl) ⟨Nat.zero_le _, Nat.zero_le _⟩ dX4_shape_29 ?_
      refine k_ifD (P := 1 ≤ ((ht : Nat) : Int) ∧ ((ht : Nat) : Int) ≤ 32) (tgt := 50) hx hb dX4_shape_32 (by decide) (fun c_32 => ?_) (fun c_32 => ?_)
      · exact absurd c_32 (by omega)
      · refine lv_iload hx hb dX4_shape_35 (lv_at hl 6 rfl) ?_
        refine lv_iconst (v := iI (1)) hx hb dX4_shape_37 rfl ?_
        refine lv_bipush (v := iI (32)) hx hb dX4_shape_38 (by decide) ?_
        refine k_roS (rest := []) [.int (iI (((wt : Nat) : Int))), .int (iI (1)), .int (iI (32))] ⟨hx, hb, hml, hown, hts⟩ (c_X4_isWithin lM G ((wt : Nat) : Int) 1 32 (by omega) (by omega) (by omega)) (va_cwS 3 hts gX4_shape_X4_isWithin rfl rfl rfl (by decide +kernel) ⟨Nat.le_of_ble_eq_true rfl, Nat.le_of_ble_eq_true rfl⟩) hG (fun k q h => by simp at h) rfl rfl hl.1 (Nat.le_of_ble_eq_true rfl) ⟨Nat.zero_le _, Nat.zero_le _⟩ dX4_shape_40 ?_
        refine k_ifD (P := 1 ≤ ((wt : Nat) : Int) ∧ ((wt : Nat) : Int) ≤ 32) (tgt := 50) hx hb dX4_shape_43 (by decide) (fun c_43 => ?_) (fun c_43 => ?_)
        · exact absurd c_43 (by omega)
        · refine lv_iconst (v := iI (1)) hx hb dX4_shape_46 rfl ?_
          refine lv_goto (tgt := 51) hx hb dX4_shape_47 (by decide) ?_
          refine lv_istore (lv' := [(9, .int (iI (1))), (8, .int (iI (1))), (0, .ref x), (1, .int (iI (((kd : Nat) : Int)))), (2, .int (iI (tp))), (3, .int (iI (lf))), (4, .int (iI (((ht : Nat) : Int)))), (5, .int (iI (((wt : Nat) : Int)))), (6, .int (iI (((cl : Nat) : Int)))), (7, .int (iI (b2i fn)))]) hx hb dX4_shape_51 hl (by decide) rfl (fun ls hl => ?_)
          refine lv_iload hx hb dX4_shape_53 (lv_at hl 1 rfl) ?_
          refine k_if_eq (a := 1) (tgt := 71) hx hb (by omega) dX4_shape_55 (by decide) (fun c_55 => ?_) (fun c_55 => ?_)
          · exact absurd c_55 (by decide)
          · refine lv_iload hx hb dX4_shape_58 (lv_at hl 0 rfl) ?_
            refine k_if_eq (a := 1) (tgt := 71) hx hb (by omega) dX4_shape_60 (by decide) (fun c_60 => ?_) (fun c_60 => ?_)
            · exact absurd c_60 (by decide)
            · refine lv_iload_n hx hb dX4_shape_63 rfl (lv_at hl 4 rfl) ?_
              refine lv_iload_n hx hb dX4_shape_64 rfl (lv_at hl 5 rfl) ?_
              refine k_roS (rest := []) [.int (iI (tp)), .int (iI (lf))] ⟨hx, hb, hml, hown, hts⟩ (c_X4_isPlace lM G tp lf (by omega) (by omega)) (va_cwS 2 hts gX4_shape_X4_isPlace rfl rfl rfl (by decide +kernel) ⟨Nat.le_of_ble_eq_true rfl, Nat.le_of_ble_eq_true rfl⟩) hG (fun k q h => by simp at h) rfl rfl hl.1 (Nat.le_of_ble_eq_true rfl) ⟨Nat.zero_le _, Nat.zero_le _⟩ dX4_shape_65 ?_
              refine k_ifnD (P := (-16 ≤ tp ∧ tp ≤ 31) ∧ (-16 ≤ lf ∧ lf ≤ 31)) (tgt := 73) hx hb dX4_shape_68 (by decide) (fun c_68 => ?_) (fun c_68 => ?_)
              · refine lv_aload_n hx hb dX4_shape_73 rfl (lv_at hl 2 rfl) ?_
                refine va_get (D := G.1) (ci := 4) (v := .ref t) (C := RX4) (T := TX4) (N := 3) hx hb hts inX4_X4_shape hown hG.1 (rk hV0 hVA hS) 0 rfl rfl 0 (by decide) (hts (.fieldLink RX4 10 "InkOverInk" "now" "LInkOverInk$Sheet;") (by decide +kernel)) (fun _ h9 => h9) rfl dX4_shape_74 ?_
                refine va_new (ci := 2) (fs := [.int (iI (0)), .int (iI (0)), .int (iI (0)), .int (iI (0)), .int (iI (0)), .int (iI (0)), .int (iI (b2i false))]) (C := RX2) (T := TX2) (N := 7) hx hb hts inX2_X4_shape tyX2 tyX2_ok hown (hts (.classLink RX4 57 RX2) (by decide +kernel)) (hts (.instantiable RX2 7) (by decide +kernel)) (hts (.initialized RX2) (by decide +kernel)) hG.1 hP hD hS hA rfl (fun j hj => by rcases (show j = 0 ∨ j = 1 ∨ j = 2 ∨ j = 3 ∨ j = 4 ∨ j = 5 ∨ j = 6 by omega) with rfl | rfl | rfl | rfl | rfl | rfl | rfl <;> rfl) (Nat.le_of_ble_eq_true rfl) (Nat.le_of_ble_eq_true rfl) dX4_shape_77 (fun q_77 H hP hD hS => ?_)
                have hP : va_P G.1 vwCl [(t, .inr (3, [.int (iI (((rw : Nat) : Int))), .int (iI (((cm : Nat) : Int))), .int (iI (((tr : Nat) : Int))), .int (iI (cr)), .int (iI (((ly : Nat) : Int))), .int (iI (((md : Nat) : Int))), .ref aw, .ref ad, .ref ac, .ref ao, .ref ax])), (p, .inr (1, [.ref sa, .ref qo, .ref qi, .ref qs, .ref qp, .ref qh, .int (iI (((dn : Nat) : Int)))])), (q_77, .inr (2, [.int (iI (0)), .int (iI (0)), .int (iI (0)), .int (iI (0)), .int (iI (0)), .int (iI (0)), .int (iI (b2i false))]))] H := hP
                have hD : va_D A [(t, .inr (3, [.int (iI (((rw : Nat) : Int))), .int (iI (((cm : Nat) : Int))), .int (iI (((tr : Nat) : Int))), .int (iI (cr)), .int (iI (((ly : Nat) : Int))), .int (iI (((md : Nat) : Int))), .ref aw, .ref ad, .ref ac, .ref ao, .ref ax])), (p, .inr (1, [.ref sa, .ref qo, .ref qi, .ref qs, .ref qp, .ref qh, .int (iI (((dn : Nat) : Int)))])), (q_77, .inr (2, [.int (iI (0)), .int (iI (0)), .int (iI (0)), .int (iI (0)), .int (iI (0)), .int (iI (0)), .int (iI (b2i false))]))] := hD
                refine W.widen (k := 1) (n := 7) (by decide) (by decide) ?_
                refine lv_dup hx hb dX4_shape_80 rfl ?_
                refine lv_iload_n hx hb dX4_shape_81 rfl (lv_at hl 3 rfl) ?_
                refine lv_iload_n hx hb dX4_shape_82 rfl (lv_at hl 4 rfl) ?_
                refine lv_iload_n hx hb dX4_shape_83 rfl (lv_at hl 5 rfl) ?_
                refine lv_iload hx hb dX4_shape_84 (lv_at hl 6 rfl) ?_
                refine lv_iload hx hb dX4_shape_86 (lv_at hl 7 rfl) ?_
                refine lv_iload hx hb dX4_shape_88 (lv_at hl 8 rfl) ?_
                refine lv_iload hx hb dX4_shape_90 (lv_at hl 9 rfl) ?_
                refine k_rwI (rest := [.ref q_77, .ref t]) (wr := [(t, .inr (3, [.int (iI (((rw : Nat) : Int))), .int (iI (((cm : Nat) : Int))), .int (iI (((tr : Nat) : Int))), .int (iI (cr)), .int (iI (((ly : Nat) : Int))), .int (iI (((md : Nat) : Int))), .ref aw, .ref ad, .ref ac, .ref ao, .ref ax])), (p, .inr (1, [.ref sa, .ref qo, .ref qi, .ref qs, .ref qp, .ref qh, .int (iI (((dn : Nat) : Int)))]))]) (w := [(q_77, .inr (2, [.int (iI (0)), .int (iI (0)), .int (iI (0)), .int (iI (0)), .int (iI (0)), .int (iI (0)), .int (iI (b2i false))]))]) (v := []) [.int (iI (((kd : Nat) : Int))), .int (iI (tp)), .int (iI (lf)), .int (iI (((ht : Nat) : Int))), .int (iI (((wt : Nat) : Int))), .int (iI (((cl : Nat) : Int))), .int (iI (b2i fn))] ⟨hx, hb, hml, hown, hts⟩ (c_X2_init lM G H.size q_77 kd tp lf ht wt cl fn ) (cwI 7 hts gX4_shape_X2_init rfl rfl rfl (hts (.initialized RX2) (by decide +kernel)) (hts (.methodLink RX4 59 yX2_init) (by decide +kernel)) (hts (.instanceMethod yX2_init) (by decide +kernel)) rfl (by decide +kernel) ⟨Nat.le_of_ble_eq_true rfl, Nat.le_of_ble_eq_true rfl⟩) hG hP hD hS hA [2] [0, 1] rfl rfl (by decide) (fun k q h => by simp at h) ap_nil rfl rfl hl.1 (Nat.le_of_ble_eq_true rfl) ⟨Nat.le_of_ble_eq_true rfl, Nat.le_of_ble_eq_true rfl⟩ dX4_shape_92 (fun o9 w9 H locs h9 hP hD hS => ?_)
                obtain ⟨rfl, rfl⟩ := h9
                have hP := hP.sub (ws' := [(t, .inr (3, [.int (iI (((rw : Nat) : Int))), .int (iI (((cm : Nat) : Int))), .int (iI (((tr : Nat) : Int))), .int (iI (cr)), .int (iI (((ly : Nat) : Int))), .int (iI (((md : Nat) : Int))), .ref aw, .ref ad, .ref ac, .ref ao, .ref ax])), (p, .inr (1, [.ref sa, .ref qo, .ref qi, .ref qs, .ref qp, .ref qh, .int (iI (((dn : Nat) : Int)))])), (q_77, .inr (2, [.int (iI (((kd : Nat) : Int))), .int (iI (tp)), .int (iI (lf)), .int (iI (((ht : Nat) : Int))), .int (iI (((wt : Nat) : Int))), .int (iI (((cl : Nat) : Int))), .int (iI (b2i fn))]))]) [0, 1, 2] rfl
                have hD := hD.sub (ws' := [(t, .inr (3, [.int (iI (((rw : Nat) : Int))), .int (iI (((cm : Nat) : Int))), .int (iI (((tr : Nat) : Int))), .int (iI (cr)), .int (iI (((ly : Nat) : Int))), .int (iI (((md : Nat) : Int))), .ref aw, .ref ad, .ref ac, .ref ao, .ref ax])), (p, .inr (1, [.ref sa, .ref qo, .ref qi, .ref qs, .ref qp, .ref qh, .int (iI (((dn : Nat) : Int)))])), (q_77, .inr (2, [.int (iI (((kd : Nat) : Int))), .int (iI (tp)), .int (iI (lf)), .int (iI (((ht : Nat) : Int))), .int (iI (((wt : Nat) : Int))), .int (iI (((cl : Nat) : Int))), .int (iI (b2i fn))]))]) [0, 1, 2] (by decide) rfl
                refine k_rwV (rest := []) (wr := [(p, .inr (1, [.ref sa, .ref qo, .ref qi, .ref qs, .ref qp, .ref qh, .int (iI (((dn : Nat) : Int)))])), (q_77, .inr (2, [.int (iI (((kd : Nat) : Int))), .int (iI (tp)), .int (iI (lf)), .int (iI (((ht : Nat) : Int))), .int (iI (((wt : Nat) : Int))), .int (iI (((cl : Nat) : Int))), .int (iI (b2i fn))]))]) (w := [(t, .inr (3, [.int (iI (((rw : Nat) : Int))), .int (iI (((cm : Nat) : Int))), .int (iI (((tr : Nat) : Int))), .int (iI (cr)), .int (iI (((ly : Nat) : Int))), .int (iI (((md : Nat) : Int))), .ref aw, .ref ad, .ref ac, .ref ao, .ref ax]))]) (v := []) [.ref q_77] ⟨hx, hb, hml, hown, hts⟩ (c_X3_add_F lM G H.size t rw cm tr cr ly md aw ad ac ao ax q_77 (by omega)) (cwV 1 hts gX4_shape_X3_add rfl rfl rfl (by decide +kernel) ⟨Nat.le_of_ble_eq_true rfl, Nat.le_of_ble_eq_true rfl⟩) hG (va_recv hG.1 hP (ci := 3) (q0 := 0) rfl rfl) hP hD hS hA [0] [1, 2] rfl rfl (by decide) (fun k q h => by simp at h) ap_nil rfl rfl hl.1 (Nat.le_of_ble_eq_true rfl) ⟨Nat.le_of_ble_eq_true rfl, Nat.le_of_ble_eq_true rfl⟩ dX4_shape_95 (fun o9 w9 H locs h9 hP hD hS => ?_)
                obtain ⟨rfl, rfl⟩ := h9
                have hP := hP.sub (ws' := [(t, .inr (3, [.int (iI (((rw : Nat) : Int))), .int (iI (((cm : Nat) : Int))), .int (iI (((tr : Nat) : Int))), .int (iI (cr)), .int (iI (((ly : Nat) : Int))), .int (iI (((md : Nat) : Int))), .ref aw, .ref ad, .ref ac, .ref ao, .ref ax])), (p, .inr (1, [.ref sa, .ref qo, .ref qi, .ref qs, .ref qp, .ref qh, .int (iI (((dn : Nat) : Int)))])), (q_77, .inr (2, [.int (iI (((kd : Nat) : Int))), .int (iI (tp)), .int (iI (lf)), .int (iI (((ht : Nat) : Int))), .int (iI (((wt : Nat) : Int))), .int (iI (((cl : Nat) : Int))), .int (iI (b2i fn))]))]) [2, 0, 1] rfl
                have hD := hD.sub (ws' := [(t, .inr (3, [.int (iI (((rw : Nat) : Int))), .int (iI (((cm : Nat) : Int))), .int (iI (((tr : Nat) : Int))), .int (iI (cr)), .int (iI (((ly : Nat) : Int))), .int (iI (((md : Nat) : Int))), .ref aw, .ref ad, .ref ac, .ref ao, .ref ax])), (p, .inr (1, [.ref sa, .ref qo, .ref qi, .ref qs, .ref qp, .ref qh, .int (iI (((dn : Nat) : Int)))])), (q_77, .inr (2, [.int (iI (((kd : Nat) : Int))), .int (iI (tp)), .int (iI (lf)), .int (iI (((ht : Nat) : Int))), .int (iI (((wt : Nat) : Int))), .int (iI (((cl : Nat) : Int))), .int (iI (b2i fn))]))]) [2, 0, 1] (by decide) rfl
                refine lv_istore (lv' := [(10, .int (iI ((-1)))), (9, .int (iI (1))), (8, .int (iI (1))), (0, .ref x), (1, .int (iI (((kd : Nat) : Int)))), (2, .int (iI (tp))), (3, .int (iI (lf))), (4, .int (iI (((ht : Nat) : Int)))), (5, .int (iI (((wt : Nat) : Int)))), (6, .int (iI (((cl : Nat) : Int)))), (7, .int (iI (b2i fn)))]) hx hb dX4_shape_98 hl (by decide) rfl (fun ls hl => ?_)
                refine lv_aload_n hx hb dX4_shape_100 rfl (lv_at hl 3 rfl) ?_
                refine va_get (D := G.1) (ci := 4) (v := .ref p) (C := RX4) (T := TX4) (N := 3) hx hb hts inX4_X4_shape hown hG.1 (rk hV0 hVA hS) 0 rfl rfl 1 (by decide) (hts (.fieldLink RX4 19 "InkOverInk" "press" "LInkOverInk$Press;") (by decide +kernel)) (fun _ h9 => h9) rfl dX4_shape_101 ?_
                refine lv_iconst (v := iI (0)) hx hb dX4_shape_104 rfl ?_
                refine k_rwV (rest := []) (wr := [(t, .inr (3, [.int (iI (((rw : Nat) : Int))), .int (iI (((cm : Nat) : Int))), .int (iI (((tr : Nat) : Int))), .int (iI (cr)), .int (iI (((ly : Nat) : Int))), .int (iI (((md : Nat) : Int))), .ref aw, .ref ad, .ref ac, .ref ao, .ref ax])), (q_77, .inr (2, [.int (iI (((kd : Nat) : Int))), .int (iI (tp)), .int (iI (lf)), .int (iI (((ht : Nat) : Int))), .int (iI (((wt : Nat) : Int))), .int (iI (((cl : Nat) : Int))), .int (iI (b2i fn))]))]) (w := [(p, .inr (1, [.ref sa, .ref qo, .ref qi, .ref qs, .ref qp, .ref qh, .int (iI (((dn : Nat) : Int)))]))]) (v := []) [.int (iI (0))] ⟨hx, hb, hml, hown, hts⟩ (c_X1_keepOnly lM G H.size p sa qo qi qs qp qh dn 0 (by omega) (by omega)) (cwV 1 hts gX4_shape_X1_keepOnly rfl rfl rfl (by decide +kernel) ⟨Nat.le_of_ble_eq_true rfl, Nat.le_of_ble_eq_true rfl⟩) hG (va_recv hG.1 hP (ci := 1) (q0 := 1) rfl rfl) hP hD hS hA [1] [0, 2] rfl rfl (by decide) (fun k q h => by simp at h) ap_nil rfl rfl hl.1 (Nat.le_of_ble_eq_true rfl) ⟨Nat.le_of_ble_eq_true rfl, Nat.le_of_ble_eq_true rfl⟩ dX4_shape_105 (fun o9 w9 H locs h9 hP hD hS => ?_)
                obtain ⟨rfl, rfl⟩ := h9
                have hP := hP.sub (ws' := [(t, .inr (3, [.int (iI (((rw : Nat) : Int))), .int (iI (((cm : Nat) : Int))), .int (iI (((tr : Nat) : Int))), .int (iI (cr)), .int (iI (((ly : Nat) : Int))), .int (iI (((md : Nat) : Int))), .ref aw, .ref ad, .ref ac, .ref ao, .ref ax])), (p, .inr (1, [.ref sa, .ref qo, .ref qi, .ref qs, .ref qp, .ref qh, .int (iI (((min dn 0 : Nat) : Int)))])), (q_77, .inr (2, [.int (iI (((kd : Nat) : Int))), .int (iI (tp)), .int (iI (lf)), .int (iI (((ht : Nat) : Int))), .int (iI (((wt : Nat) : Int))), .int (iI (((cl : Nat) : Int))), .int (iI (b2i fn))]))]) [0, 2, 1] rfl
                have hD := hD.sub (ws' := [(t, .inr (3, [.int (iI (((rw : Nat) : Int))), .int (iI (((cm : Nat) : Int))), .int (iI (((tr : Nat) : Int))), .int (iI (cr)), .int (iI (((ly : Nat) : Int))), .int (iI (((md : Nat) : Int))), .ref aw, .ref ad, .ref ac, .ref ao, .ref ax])), (p, .inr (1, [.ref sa, .ref qo, .ref qi, .ref qs, .ref qp, .ref qh, .int (iI (((min dn 0 : Nat) : Int)))])), (q_77, .inr (2, [.int (iI (((kd : Nat) : Int))), .int (iI (tp)), .int (iI (lf)), .int (iI (((ht : Nat) : Int))), .int (iI (((wt : Nat) : Int))), .int (iI (((cl : Nat) : Int))), .int (iI (b2i fn))]))]) [0, 2, 1] (by decide) rfl
                refine lv_iload hx hb dX4_shape_108 (lv_at hl 0 rfl) ?_
                exact rw_iret (a := (-1)) hx hb hr hlocks hP hD hS dX4_shape_110 (⟨q_77, rfl, rfl⟩)
              · exact absurd h2 c_68

set_option maxHeartbeats 4000000 in
set_option maxRecDepth 100000 in
theorem c_X4_shape_N (lM : Launch) (G : GG) (sz : Nat) (x : Nat) (kd tp lf ht wt cl : Int) (fn : Bool) (h1 : ¬ ((0 ≤ kd ∧ kd ≤ 3) ∧ ((-16 ≤ tp ∧ tp ≤ 31) ∧ (-16 ≤ lf ∧ lf ≤ 31)) ∧ (1 ≤ ht ∧ ht ≤ 32) ∧ (1 ≤ wt ∧ wt ≤ 32) ∧ (0 ≤ cl ∧ cl ≤ 15))) (h2 : -2147483648 ≤ kd ∧ kd < 2147483648) (h3 : -2147483648 ≤ tp ∧ tp < 2147483648) (h4 : -2147483648 ≤ lf ∧ lf < 2147483648) (h5 : -2147483648 ≤ ht ∧ ht < 2147483648) (h6 : -2147483648 ≤ wt ∧ wt < 2147483648) (h7 : -2147483648 ≤ cl ∧ cl < 2147483648) : Met lM yX4_shape wsX4_shape rmX4_shape (rwP G [.ref x, .int (iI (kd)), .int (iI (tp)), .int (iI (lf)), .int (iI (ht)), .int (iI (wt)), .int (iI (cl)), .int (iI (b2i fn))] [] [] sz) (rwA G (va_A [] sz) (det (some (.int (iI ((-1))))) [])) 1 7 (va_A [] sz) := by
  refine rw_of (cc := cX4_shape) (maxL := 11) (ret := (some .int)) (by decide) rfl (Nat.le_of_ble_eq_true rfl) ?_
  intro pM eM sM mM bM tM cM hx hb hr hts hown hlocks hml hin hG A hA hP hD hS hV0 hVA ls hl
  have hown : sM.vm.findClass RX4 = some mM.cls := hown
  have hl : lv_has ls 11 [(0, .ref x), (1, .int (iI (kd))), (2, .int (iI (tp))), (3, .int (iI (lf))), (4, .int (iI (ht))), (5, .int (iI (wt))), (6, .int (iI (cl))), (7, .int (iI (b2i fn)))] := hl
  refine lv_iload_n hx hb dX4_shape_0 rfl (lv_at hl 1 rfl) ?_
  refine lv_iconst (v := iI (0)) hx hb dX4_shape_1 rfl ?_
  refine lv_iconst (v := iI (3)) hx hb dX4_shape_2 rfl ?_
  refine k_roS (rest := []) [.int (iI (kd)), .int (iI (0)), .int (iI (3))] ⟨hx, hb, hml, hown, hts⟩ (c_X4_isWithin lM G kd 0 3 (by omega) (by omega) (by omega)) (va_cwS 3 hts gX4_shape_X4_isWithin rfl rfl rfl (by decide +kernel) ⟨Nat.le_of_ble_eq_true rfl, Nat.le_of_ble_eq_true rfl⟩) hG (fun k q h => by simp at h) rfl rfl hl.1 (Nat.le_of_ble_eq_true rfl) ⟨Nat.zero_le _, Nat.zero_le _⟩ dX4_shape_3 ?_
  refine k_ifD (P := 0 ≤ kd ∧ kd ≤ 3) (tgt := 21) hx hb dX4_shape_6 (by decide) (fun c_6 => ?_) (fun c_6 => ?_)
  · refine lv_iconst (v := iI (0)) hx hb dX4_shape_21 rfl ?_
    refine lv_istore (lv' := [(8, .int (iI (0))), (0, .ref x), (1, .int (iI (kd))), (2, .int (iI (tp))), (3, .int (iI (lf))), (4, .int (iI (ht))), (5, .int (iI (wt))), (6, .int (iI (cl))), (7, .int (iI (b2i fn)))]) hx hb dX4_shape_22 hl (by decide) rfl (fun ls hl => ?_)
    refine lv_iload hx hb dX4_shape_24 (lv_at hl 5 rfl) ?_
    refine lv_iconst (v := iI (1)) hx hb dX4_shape_26 rfl ?_
    refine lv_bipush (v := iI (32)) hx hb dX4_shape_27 (by decide) ?_
    refine k_roS (rest := []) [.int (iI (ht)), .int (iI (1)), .int (iI (32))] ⟨hx, hb, hml, hown, hts⟩ (c_X4_isWithin lM G ht 1 32 (by omega) (by omega) (by omega)) (va_cwS 3 hts gX4_shape_X4_isWithin rfl rfl rfl (by decide +kernel) ⟨Nat.le_of_ble_eq_true rfl, Nat.le_of_ble_eq_true rfl⟩) hG (fun k q h => by simp at h) rfl rfl hl.1 (Nat.le_of_ble_eq_true rfl) ⟨Nat.zero_le _, Nat.zero_le _⟩ dX4_shape_29 ?_
    refine k_ifD (P := 1 ≤ ht ∧ ht ≤ 32) (tgt := 50) hx hb dX4_shape_32 (by decide) (fun c_32 => ?_) (fun c_32 => ?_)
    · refine lv_iconst (v := iI (0)) hx hb dX4_shape_50 rfl ?_
      refine lv_istore (lv' := [(9, .int (iI (0))), (8, .int (iI (0))), (0, .ref x), (1, .int (iI (kd))), (2, .int (iI (tp))), (3, .int (iI (lf))), (4, .int (iI (ht))), (5, .int (iI (wt))), (6, .int (iI (cl))), (7, .int (iI (b2i fn)))]) hx hb dX4_shape_51 hl (by decide) rfl (fun ls hl => ?_)
      refine lv_iload hx hb dX4_shape_53 (lv_at hl 1 rfl) ?_
      refine k_if_eq (a := 0) (tgt := 71) hx hb (by omega) dX4_shape_55 (by decide) (fun c_55 => ?_) (fun c_55 => ?_)
      · refine lv_iconst (v := iI (-1)) hx hb dX4_shape_71 rfl ?_
        refine W.widen (k := 1) (n := 7) (by decide) (by decide) ?_
        exact rw_iret (a := (-1)) hx hb hr hlocks hP hD hS dX4_shape_72 (⟨rfl, rfl⟩)
      · exact absurd rfl c_55
    · refine lv_iload hx hb dX4_shape_35 (lv_at hl 6 rfl) ?_
      refine lv_iconst (v := iI (1)) hx hb dX4_shape_37 rfl ?_
      refine lv_bipush (v := iI (32)) hx hb dX4_shape_38 (by decide) ?_
      refine k_roS (rest := []) [.int (iI (wt)), .int (iI (1)), .int (iI (32))] ⟨hx, hb, hml, hown, hts⟩ (c_X4_isWithin lM G wt 1 32 (by omega) (by omega) (by omega)) (va_cwS 3 hts gX4_shape_X4_isWithin rfl rfl rfl (by decide +kernel) ⟨Nat.le_of_ble_eq_true rfl, Nat.le_of_ble_eq_true rfl⟩) hG (fun k q h => by simp at h) rfl rfl hl.1 (Nat.le_of_ble_eq_true rfl) ⟨Nat.zero_le _, Nat.zero_le _⟩ dX4_shape_40 ?_
      refine k_ifD (P := 1 ≤ wt ∧ wt ≤ 32) (tgt := 50) hx hb dX4_shape_43 (by decide) (fun c_43 => ?_) (fun c_43 => ?_)
      · refine lv_iconst (v := iI (0)) hx hb dX4_shape_50 rfl ?_
        refine lv_istore (lv' := [(9, .int (iI (0))), (8, .int (iI (0))), (0, .ref x), (1, .int (iI (kd))), (2, .int (iI (tp))), (3, .int (iI (lf))), (4, .int (iI (ht))), (5, .int (iI (wt))), (6, .int (iI (cl))), (7, .int (iI (b2i fn)))]) hx hb dX4_shape_51 hl (by decide) rfl (fun ls hl => ?_)
        refine lv_iload hx hb dX4_shape_53 (lv_at hl 1 rfl) ?_
        refine k_if_eq (a := 0) (tgt := 71) hx hb (by omega) dX4_shape_55 (by decide) (fun c_55 => ?_) (fun c_55 => ?_)
        · refine lv_iconst (v := iI (-1)) hx hb dX4_shape_71 rfl ?_
          refine W.widen (k := 1) (n := 7) (by decide) (by decide) ?_
          exact rw_iret (a := (-1)) hx hb hr hlocks hP hD hS dX4_shape_72 (⟨rfl, rfl⟩)
        · exact absurd rfl c_55
      · refine lv_iconst (v := iI (1)) hx hb dX4_shape_46 rfl ?_
        refine lv_goto (tgt := 51) hx hb dX4_shape_47 (by decide) ?_
        refine lv_istore (lv' := [(9, .int (iI (1))), (8, .int (iI (0))), (0, .ref x), (1, .int (iI (kd))), (2, .int (iI (tp))), (3, .int (iI (lf))), (4, .int (iI (ht))), (5, .int (iI (wt))), (6, .int (iI (cl))), (7, .int (iI (b2i fn)))]) hx hb dX4_shape_51 hl (by decide) rfl (fun ls hl => ?_)
        refine lv_iload hx hb dX4_shape_53 (lv_at hl 1 rfl) ?_
        refine k_if_eq (a := 0) (tgt := 71) hx hb (by omega) dX4_shape_55 (by decide) (fun c_55 => ?_) (fun c_55 => ?_)
        · refine lv_iconst (v := iI (-1)) hx hb dX4_shape_71 rfl ?_
          refine W.widen (k := 1) (n := 7) (by decide) (by decide) ?_
          exact rw_iret (a := (-1)) hx hb hr hlocks hP hD hS dX4_shape_72 (⟨rfl, rfl⟩)
        · exact absurd rfl c_55
  · refine lv_iload hx hb dX4_shape_9 (lv_at hl 6 rfl) ?_
    refine k_roS (rest := []) [.int (iI (cl))] ⟨hx, hb, hml, hown, hts⟩ (c_X4_isColour lM G cl (by omega)) (va_cwS 1 hts gX4_shape_X4_isColour rfl rfl rfl (by decide +kernel) ⟨Nat.le_of_ble_eq_true rfl, Nat.le_of_ble_eq_true rfl⟩) hG (fun k q h => by simp at h) rfl rfl hl.1 (Nat.le_of_ble_eq_true rfl) ⟨Nat.zero_le _, Nat.zero_le _⟩ dX4_shape_11 ?_
    refine k_ifD (P := 0 ≤ cl ∧ cl ≤ 15) (tgt := 21) hx hb dX4_shape_14 (by decide) (fun c_14 => ?_) (fun c_14 => ?_)
    · refine lv_iconst (v := iI (0)) hx hb dX4_shape_21 rfl ?_
      refine lv_istore (lv' := [(8, .int (iI (0))), (0, .ref x), (1, .int (iI (kd))), (2, .int (iI (tp))), (3, .int (iI (lf))), (4, .int (iI (ht))), (5, .int (iI (wt))), (6, .int (iI (cl))), (7, .int (iI (b2i fn)))]) hx hb dX4_shape_22 hl (by decide) rfl (fun ls hl => ?_)
      refine lv_iload hx hb dX4_shape_24 (lv_at hl 5 rfl) ?_
      refine lv_iconst (v := iI (1)) hx hb dX4_shape_26 rfl ?_
      refine lv_bipush (v := iI (32)) hx hb dX4_shape_27 (by decide) ?_
      refine k_roS (rest := []) [.int (iI (ht)), .int (iI (1)), .int (iI (32))] ⟨hx, hb, hml, hown, hts⟩ (c_X4_isWithin lM G ht 1 32 (by omega) (by omega) (by omega)) (va_cwS 3 hts gX4_shape_X4_isWithin rfl rfl rfl (by decide +kernel) ⟨Nat.le_of_ble_eq_true rfl, Nat.le_of_ble_eq_true rfl⟩) hG (fun k q h => by simp at h) rfl rfl hl.1 (Nat.le_of_ble_eq_true rfl) ⟨Nat.zero_le _, Nat.zero_le _⟩ dX4_shape_29 ?_
      refine k_ifD (P := 1 ≤ ht ∧ ht ≤ 32) (tgt := 50) hx hb dX4_shape_32 (by decide) (fun c_32 => ?_) (fun c_32 => ?_)
      · refine lv_iconst (v := iI (0)) hx hb dX4_shape_50 rfl ?_
        refine lv_istore (lv' := [(9, .int (iI (0))), (8, .int (iI (0))), (0, .ref x), (1, .int (iI (kd))), (2, .int (iI (tp))), (3, .int (iI (lf))), (4, .int (iI (ht))), (5, .int (iI (wt))), (6, .int (iI (cl))), (7, .int (iI (b2i fn)))]) hx hb dX4_shape_51 hl (by decide) rfl (fun ls hl => ?_)
        refine lv_iload hx hb dX4_shape_53 (lv_at hl 1 rfl) ?_
        refine k_if_eq (a := 0) (tgt := 71) hx hb (by omega) dX4_shape_55 (by decide) (fun c_55 => ?_) (fun c_55 => ?_)
        · refine lv_iconst (v := iI (-1)) hx hb dX4_shape_71 rfl ?_
          refine W.widen (k := 1) (n := 7) (by decide) (by decide) ?_
          exact rw_iret (a := (-1)) hx hb hr hlocks hP hD hS dX4_shape_72 (⟨rfl, rfl⟩)
        · exact absurd rfl c_55
      · refine lv_iload hx hb dX4_shape_35 (lv_at hl 6 rfl) ?_
        refine lv_iconst (v := iI (1)) hx hb dX4_shape_37 rfl ?_
        refine lv_bipush (v := iI (32)) hx hb dX4_shape_38 (by decide) ?_
        refine k_roS (rest := []) [.int (iI (wt)), .int (iI (1)), .int (iI (32))] ⟨hx, hb, hml, hown, hts⟩ (c_X4_isWithin lM G wt 1 32 (by omega) (by omega) (by omega)) (va_cwS 3 hts gX4_shape_X4_isWithin rfl rfl rfl (by decide +kernel) ⟨Nat.le_of_ble_eq_true rfl, Nat.le_of_ble_eq_true rfl⟩) hG (fun k q h => by simp at h) rfl rfl hl.1 (Nat.le_of_ble_eq_true rfl) ⟨Nat.zero_le _, Nat.zero_le _⟩ dX4_shape_40 ?_
        refine k_ifD (P := 1 ≤ wt ∧ wt ≤ 32) (tgt := 50) hx hb dX4_shape_43 (by decide) (fun c_43 => ?_) (fun c_43 => ?_)
        · refine lv_iconst (v := iI (0)) hx hb dX4_shape_50 rfl ?_
          refine lv_istore (lv' := [(9, .int (iI (0))), (8, .int (iI (0))), (0, .ref x), (1, .int (iI (kd))), (2, .int (iI (tp))), (3, .int (iI (lf))), (4, .int (iI (ht))), (5, .int (iI (wt))), (6, .int (iI (cl))), (7, .int (iI (b2i fn)))]) hx hb dX4_shape_51 hl (by decide) rfl (fun ls hl => ?_)
          refine lv_iload hx hb dX4_shape_53 (lv_at hl 1 rfl) ?_
          refine k_if_eq (a := 0) (tgt := 71) hx hb (by omega) dX4_shape_55 (by decide) (fun c_55 => ?_) (fun c_55 => ?_)
          · refine lv_iconst (v := iI (-1)) hx hb dX4_shape_71 rfl ?_
            refine W.widen (k := 1) (n := 7) (by decide) (by decide) ?_
            exact rw_iret (a := (-1)) hx hb hr hlocks hP hD hS dX4_shape_72 (⟨rfl, rfl⟩)
          · exact absurd rfl c_55
        · refine lv_iconst (v := iI (1)) hx hb dX4_shape_46 rfl ?_
          refine lv_goto (tgt := 51) hx hb dX4_shape_47 (by decide) ?_
          refine lv_istore (lv' := [(9, .int (iI (1))), (8, .int (iI (0))), (0, .ref x), (1, .int (iI (kd))), (2, .int (iI (tp))), (3, .int (iI (lf))), (4, .int (iI (ht))), (5, .int (iI (wt))), (6, .int (iI (cl))), (7, .int (iI (b2i fn)))]) hx hb dX4_shape_51 hl (by decide) rfl (fun ls hl => ?_)
          refine lv_iload hx hb dX4_shape_53 (lv_at hl 1 rfl) ?_
          refine k_if_eq (a := 0) (tgt := 71) hx hb (by omega) dX4_shape_55 (by decide) (fun c_55 => ?_) (fun c_55 => ?_)
          · refine lv_iconst (v := iI (-1)) hx hb dX4_shape_71 rfl ?_
            refine W.widen (k := 1) (n := 7) (by decide) (by decide) ?_
            exact rw_iret (a := (-1)) hx hb hr hlocks hP hD hS dX4_shape_72 (⟨rfl, rfl⟩)
          · exact absurd rfl c_55
    · refine lv_iconst (v := iI (1)) hx hb dX4_shape_17 rfl ?_
      refine lv_goto (tgt := 22) hx hb dX4_shape_18 (by decide) ?_
      refine lv_istore (lv' := [(8, .int (iI (1))), (0, .ref x), (1, .int (iI (kd))), (2, .int (iI (tp))), (3, .int (iI (lf))), (4, .int (iI (ht))), (5, .int (iI (wt))), (6, .int (iI (cl))), (7, .int (iI (b2i fn)))]) hx hb dX4_shape_22 hl (by decide) rfl (fun ls hl => ?_)
      refine lv_iload hx hb dX4_shape_24 (lv_at hl 5 rfl) ?_
      refine lv_iconst (v := iI (1)) hx hb dX4_shape_26 rfl ?_
      refine lv_bipush (v := iI (32)) hx hb dX4_shape_27 (by decide) ?_
      refine k_roS (rest := []) [.int (iI (ht)), .int (iI (1)), .int (iI (32))] ⟨hx, hb, hml, hown, hts⟩ (c_X4_isWithin lM G ht 1 32 (by omega) (by omega) (by omega)) (va_cwS 3 hts gX4_shape_X4_isWithin rfl rfl rfl (by decide +kernel) ⟨Nat.le_of_ble_eq_true rfl, Nat.le_of_ble_eq_true rfl⟩) hG (fun k q h => by simp at h) rfl rfl hl.1 (Nat.le_of_ble_eq_true rfl) ⟨Nat.zero_le _, Nat.zero_le _⟩ dX4_shape_29 ?_
      refine k_ifD (P := 1 ≤ ht ∧ ht ≤ 32) (tgt := 50) hx hb dX4_shape_32 (by decide) (fun c_32 => ?_) (fun c_32 => ?_)
      · refine lv_iconst (v := iI (0)) hx hb dX4_shape_50 rfl ?_
        refine lv_istore (lv' := [(9, .int (iI (0))), (8, .int (iI (1))), (0, .ref x), (1, .int (iI (kd))), (2, .int (iI (tp))), (3, .int (iI (lf))), (4, .int (iI (ht))), (5, .int (iI (wt))), (6, .int (iI (cl))), (7, .int (iI (b2i fn)))]) hx hb dX4_shape_51 hl (by decide) rfl (fun ls hl => ?_)
        refine lv_iload hx hb dX4_shape_53 (lv_at hl 1 rfl) ?_
        refine k_if_eq (a := 1) (tgt := 71) hx hb (by omega) dX4_shape_55 (by decide) (fun c_55 => ?_) (fun c_55 => ?_)
        · exact absurd c_55 (by decide)
        · refine lv_iload hx hb dX4_shape_58 (lv_at hl 0 rfl) ?_
          refine k_if_eq (a := 0) (tgt := 71) hx hb (by omega) dX4_shape_60 (by decide) (fun c_60 => ?_) (fun c_60 => ?_)
          · refine lv_iconst (v := iI (-1)) hx hb dX4_shape_71 rfl ?_
            refine W.widen (k := 1) (n := 7) (by decide) (by decide) ?_
            exact rw_iret (a := (-1)) hx hb hr hlocks hP hD hS dX4_shape_72 (⟨rfl, rfl⟩)
          · exact absurd rfl c_60
      · refine lv_iload hx hb dX4_shape_35 (lv_at hl 6 rfl) ?_
        refine lv_iconst (v := iI (1)) hx hb dX4_shape_37 rfl ?_
        refine lv_bipush (v := iI (32)) hx hb dX4_shape_38 (by decide) ?_
        refine k_roS (rest := []) [.int (iI (wt)), .int (iI (1)), .int (iI (32))] ⟨hx, hb, hml, hown, hts⟩ (c_X4_isWithin lM G wt 1 32 (by omega) (by omega) (by omega)) (va_cwS 3 hts gX4_shape_X4_isWithin rfl rfl rfl (by decide +kernel) ⟨Nat.le_of_ble_eq_true rfl, Nat.le_of_ble_eq_true rfl⟩) hG (fun k q h => by simp at h) rfl rfl hl.1 (Nat.le_of_ble_eq_true rfl) ⟨Nat.zero_le _, Nat.zero_le _⟩ dX4_shape_40 ?_
        refine k_ifD (P := 1 ≤ wt ∧ wt ≤ 32) (tgt := 50) hx hb dX4_shape_43 (by decide) (fun c_43 => ?_) (fun c_43 => ?_)
        · refine lv_iconst (v := iI (0)) hx hb dX4_shape_50 rfl ?_
          refine lv_istore (lv' := [(9, .int (iI (0))), (8, .int (iI (1))), (0, .ref x), (1, .int (iI (kd))), (2, .int (iI (tp))), (3, .int (iI (lf))), (4, .int (iI (ht))), (5, .int (iI (wt))), (6, .int (iI (cl))), (7, .int (iI (b2i fn)))]) hx hb dX4_shape_51 hl (by decide) rfl (fun ls hl => ?_)
          refine lv_iload hx hb dX4_shape_53 (lv_at hl 1 rfl) ?_
          refine k_if_eq (a := 1) (tgt := 71) hx hb (by omega) dX4_shape_55 (by decide) (fun c_55 => ?_) (fun c_55 => ?_)
          · exact absurd c_55 (by decide)
          · refine lv_iload hx hb dX4_shape_58 (lv_at hl 0 rfl) ?_
            refine k_if_eq (a := 0) (tgt := 71) hx hb (by omega) dX4_shape_60 (by decide) (fun c_60 => ?_) (fun c_60 => ?_)
            · refine lv_iconst (v := iI (-1)) hx hb dX4_shape_71 rfl ?_
              refine W.widen (k := 1) (n := 7) (by decide) (by decide) ?_
              exact rw_iret (a := (-1)) hx hb hr hlocks hP hD hS dX4_shape_72 (⟨rfl, rfl⟩)
            · exact absurd rfl c_60
        · refine lv_iconst (v := iI (1)) hx hb dX4_shape_46 rfl ?_
          refine lv_goto (tgt := 51) hx hb dX4_shape_47 (by decide) ?_
          refine lv_istore (lv' := [(9, .int (iI (1))), (8, .int (iI (1))), (0, .ref x), (1, .int (iI (kd))), (2, .int (iI (tp))), (3, .int (iI (lf))), (4, .int (iI (ht))), (5, .int (iI (wt))), (6, .int (iI (cl))), (7, .int (iI (b2i fn)))]) hx hb dX4_shape_51 hl (by decide) rfl (fun ls hl => ?_)
          refine lv_iload hx hb dX4_shape_53 (lv_at hl 1 rfl) ?_
          refine k_if_eq (a := 1) (tgt := 71) hx hb (by omega) dX4_shape_55 (by decide) (fun c_55 => ?_) (fun c_55 => ?_)
          · exact absurd c_55 (by decide)
          · refine lv_iload hx hb dX4_shape_58 (lv_at hl 0 rfl) ?_
            refine k_if_eq (a := 1) (tgt := 71) hx hb (by omega) dX4_shape_60 (by decide) (fun c_60 => ?_) (fun c_60 => ?_)
            · exact absurd c_60 (by decide)
            · refine lv_iload_n hx hb dX4_shape_63 rfl (lv_at hl 4 rfl) ?_
              refine lv_iload_n hx hb dX4_shape_64 rfl (lv_at hl 5 rfl) ?_
              refine k_roS (rest := []) [.int (iI (tp)), .int (iI (lf))] ⟨hx, hb, hml, hown, hts⟩ (c_X4_isPlace lM G tp lf (by omega) (by omega)) (va_cwS 2 hts gX4_shape_X4_isPlace rfl rfl rfl (by decide +kernel) ⟨Nat.le_of_ble_eq_true rfl, Nat.le_of_ble_eq_true rfl⟩) hG (fun k q h => by simp at h) rfl rfl hl.1 (Nat.le_of_ble_eq_true rfl) ⟨Nat.zero_le _, Nat.zero_le _⟩ dX4_shape_65 ?_
              refine k_ifnD (P := (-16 ≤ tp ∧ tp ≤ 31) ∧ (-16 ≤ lf ∧ lf ≤ 31)) (tgt := 73) hx hb dX4_shape_68 (by decide) (fun c_68 => ?_) (fun c_68 => ?_)
              · exact absurd ⟨c_6, c_68, c_32, c_43, c_14⟩ h1
              · refine lv_iconst (v := iI (-1)) hx hb dX4_shape_71 rfl ?_
                refine W.widen (k := 1) (n := 7) (by decide) (by decide) ?_
                exact rw_iret (a := (-1)) hx hb hr hlocks hP hD hS dX4_shape_72 (⟨rfl, rfl⟩)
