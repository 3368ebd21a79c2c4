set_option maxHeartbeats 4000000 in
set_option maxRecDepth 100000 in
theorem law_page (lM : Launch) {pM : Program} {eM : Env} {sM : State} {mM : MethodId} {bM : List Frame} {tM : Method} {cM : Code} {b L : Nat} {xs : Nat → Int32} {G : GG} {Q : State → Prop} (C : lcx pM sM mM cM b L xs G) (hL : L ≤ 4096) (x m i cells slots : Nat) (hi : i + 8 ≤ L) (hcl : cells + 6 ≤ 600000) (hsl : slots + 83 ≤ 7302250) (next : ∀ (H : Heap) (locs : List Loc) (ls : Array Slot), INV G (fun q => sM.heap.size ≤ q) x m H → va_S (fun q => sM.heap.size ≤ q) sM.heap H locs → lv_has ls 4 [(0, .ref b), (1, .ref x), (2, .ref m), (3, .int (iI ((i : Nat) : Int)))] → W pM lM eM room_1 sM mM #[Value.ref b] bM tM cM H locs (cells + 6) (slots + 83) Q (F0 mM 885 ls [])) (H : Heap) (locs : List Loc) (ls : Array Slot) (hI : INV G (fun q => sM.heap.size ≤ q) x m H) (hS : va_S (fun q => sM.heap.size ≤ q) sM.heap H locs) (hl : lv_has ls 4 [(0, .ref b), (1, .ref x), (2, .ref m), (3, .int (iI ((i : Nat) : Int)))]) : W pM lM eM room_1 sM mM #[Value.ref b] bM tM cM H locs cells slots Q (F0 mM 132 ls []) := by
  obtain ⟨hx, hb, hml, hown, hts, hX, hbl, hG⟩ := C
  have hA : ∀ q : Nat, sM.heap.size ≤ q → (fun q => sM.heap.size ≤ q) q := fun _ h => h
  have hbA : ¬ (fun q => sM.heap.size ≤ q) b := Nat.not_le.mpr hbl
  obtain ⟨t, p, im, sa, qo, wo, qi, wi, qs, wd, qp, wp, qh, wh, aw, ad, ac, ao, ax, a1, a2, a3, a4, a5, a6, a7, a8, a9, a10, a11, a12, a13, a14, a15, a16, a17, a19, a20, a21, a22, a23, LP, f, I, IM, SH, s, z, MR, MC, MW, MD, MY, OQ, KD, TP, LF, HT, WD, CL, FN, MT, DR, DC, CR, KP, hP, hD, hO⟩ := hI
  obtain ⟨hRn, hSh, hW, hZ, hIm⟩ := hO
  obtain ⟨rMR, rMC, rMW, rOQ, rKD, rTP, rLF, rHT, rWD, rCL, rFN, rMT, rDR, rDC, rCR⟩ := hRn
  have k1 := rMR 0
  have k2 := rMC 0
  have k3 := rMT 0
  have k4 := rCR 0
  have k5 := hSh.2.2.2.2.1
  have k6 := hSh.2.2.2.2.2
  have k7 := hW.1.2.2.2.2
  obtain ⟨v1, e1⟩ : ∃ v : Int, v = (xs (i + 1)).toInt := ⟨_, rfl⟩
  have b1 : -2147483648 ≤ v1 ∧ v1 < 2147483648 := by rw [e1]; exact iI_rng _
  obtain ⟨v2, e2⟩ : ∃ v : Int, v = (xs (i + 2)).toInt := ⟨_, rfl⟩
  have b2 : -2147483648 ≤ v2 ∧ v2 < 2147483648 := by rw [e2]; exact iI_rng _
  by_cases hv : (1 ≤ v1 ∧ v1 ≤ 16) ∧ (1 ≤ v2 ∧ v2 ≤ 16)
  · obtain ⟨r, rfl⟩ : ∃ r : Nat, v1 = (r : Int) := ⟨(v1).toNat, by omega⟩
    obtain ⟨c, rfl⟩ : ∃ c : Nat, v2 = (c : Int) := ⟨(v2).toNat, by omega⟩
    refine lv_aload_n hx hb dL_law_132 rfl (lv_at hl 1 rfl) ?_
    refine lv_aload_n hx hb dL_law_133 rfl (lv_at hl 0 rfl) ?_
    refine lv_iload_n hx hb dL_law_134 rfl (lv_at hl 3 rfl) ?_
    refine lv_iconst (v := iI (1)) hx hb dL_law_135 rfl ?_
    refine k_iaddN (a := i) (b := 1) hx hb dL_law_136 ?_
    refine k_sld hx hb hX hbl hbA hS (z := i + 1) (by omega) hL dL_law_137 ?_
    rw [← e1]
    refine lv_aload_n hx hb dL_law_138 rfl (lv_at hl 0 rfl) ?_
    refine lv_iload_n hx hb dL_law_139 rfl (lv_at hl 3 rfl) ?_
    refine lv_iconst (v := iI (2)) hx hb dL_law_140 rfl ?_
    refine k_iaddN (a := i) (b := 2) hx hb dL_law_141 ?_
    refine k_sld hx hb hX hbl hbA hS (z := i + 2) (by omega) hL dL_law_142 ?_
    rw [← e2]
    refine k_rwVY (rest := []) (wr := [(x, .inr (4, [.ref t, .ref p, .ref im])), (aw, .inl (G.2 0, 4, .inl (fun iX => iI ((MW iX : Nat) : Int)))), (ad, .inl (G.2 0, 4, .inl (fun iX => iI (DR iX)))), (ac, .inl (G.2 0, 4, .inl (fun iX => iI (DC iX)))), (ao, .inl (G.2 0, 30, .inl (fun iX => iI ((OQ iX : Nat) : Int)))), (ax, .inl (G.2 2, 30, .inr (.inr (.inr (.inr SH))))), (sa, .inl (G.2 0, 256, .inl (fun iX => iI (s.1.1 iX)))), (wi, .inl (G.2 0, 4 * 16, .inl (fun iX => iI ((s.1.2.1 iX : Nat) : Int)))), (wo, .inl (G.2 0, 16 * 16, .inl (fun iX => iI ((s.1.2.2.1 iX : Nat) : Int)))), (wd, .inl (G.2 0, 1 * 16, .inl (fun iX => iI ((s.1.2.2.2 iX : Nat) : Int)))), (wp, .inl (G.2 0, 4 * 16, .inl (fun iX => iI ((s.2.1 iX : Nat) : Int)))), (wh, .inl (G.2 0, 4 * 16, .inl (fun iX => iI ((s.2.2.1 iX : Nat) : Int)))), (qo, .inr (0, [.int (iI (16)), .ref wo])), (qi, .inr (0, [.int (iI (4)), .ref wi])), (qs, .inr (0, [.int (iI (1)), .ref wd])), (qp, .inr (0, [.int (iI (4)), .ref wp])), (qh, .inr (0, [.int (iI (4)), .ref wh])), (im, .inl (G.2 3, 4, .inr (.inr (.inr (.inr IM)))))]) (w := [(t, .inr (3, [.int (iI ((((MR 0) : Nat) : Int))), .int (iI ((((MC 0) : Nat) : Int))), .int (iI ((((MT 0) : Nat) : Int))), .int (iI ((CR 0))), .int (iI ((((MY 0) : Nat) : Int))), .int (iI ((((MD 0) : Nat) : Int))), .ref aw, .ref ad, .ref ac, .ref ao, .ref ax])), (p, .inr (1, [.ref sa, .ref qo, .ref qi, .ref qs, .ref qp, .ref qh, .int (iI ((((s.2.2.2) : Nat) : Int)))]))]) (v := [(x, .inr (4, [.ref t, .ref p, .ref im]))]) [.int (iI (((r : Nat) : Int))), .int (iI (((c : Nat) : Int)))] ⟨hx, hb, hml, hown, hts⟩ (c_X4_page lM G H.size x im t (MR 0) (MC 0) (MT 0) (CR 0) (MY 0) (MD 0) aw ad ac ao ax p sa qo qi qs qp qh s.2.2.2 r c (by omega) (by omega) (by omega)) (cwV 2 hts gL_law_X4_page rfl rfl rfl (by decide +kernel) ⟨Nat.le_of_ble_eq_true rfl, Nat.le_of_ble_eq_true rfl⟩) hG (va_recv hG.1 hP (ci := 4) (q0 := 0) rfl rfl) hP hD hS hA [1, 7] [0, 2, 3, 4, 5, 6, 8, 9, 10, 11, 12, 13, 14, 15, 16, 17, 18, 19] rfl rfl (by decide) (rd0 (vx := [(x, .inr (4, [.ref t, .ref p, .ref im]))]) hP [0] rfl) (ap0 (vx := [(x, .inr (4, [.ref t, .ref p, .ref im]))]) hD [1, 7] [0] rfl rfl (by decide)) rfl rfl hl.1 (Nat.le_of_ble_eq_true rfl) ⟨by show cells + 0 ≤ 600000; omega, by show slots + 0 ≤ 7302250; omega⟩ dL_law_143 (fun o9 w9 H locs h9 hP hD hS => ?_)
    obtain ⟨rfl, rfl⟩ := h9
    have hP : va_P G.1 vwCl (cX G x t p im sa qo wo qi wi qs wd qp wp qh wh aw ad ac ao ax (va_up MR 0 r 0) (va_up MC 0 c 0) (MT 0) (CR 0) (MY 0) (MD 0) MW OQ DC DR SH IM (kp s 0) ++ (va_pl LP f ++ (imL I ++ mX G m a1 a2 a3 a4 a5 a6 a7 a8 a9 a10 a11 a12 a13 a14 a15 a16 a17 a19 a20 a21 a22 a23 MR MC MW MD MY OQ KD TP LF HT WD CL FN MT DR DC CR KP z))) H := re_P (ws' := cX G x t p im sa qo wo qi wi qs wd qp wp qh wh aw ad ac ao ax (va_up MR 0 r 0) (va_up MC 0 c 0) (MT 0) (CR 0) (MY 0) (MD 0) MW OQ DC DR SH IM (kp s 0)) hP [0, 18, 1, 2, 3, 4, 5, 19, 6, 7, 8, 9, 10, 11, 12, 13, 14, 15, 16, 17] rfl
    have hD : va_D _ (cX G x t p im sa qo wo qi wi qs wd qp wp qh wh aw ad ac ao ax (va_up MR 0 r 0) (va_up MC 0 c 0) (MT 0) (CR 0) (MY 0) (MD 0) MW OQ DC DR SH IM (kp s 0) ++ (va_pl LP f ++ (imL I ++ mX G m a1 a2 a3 a4 a5 a6 a7 a8 a9 a10 a11 a12 a13 a14 a15 a16 a17 a19 a20 a21 a22 a23 MR MC MW MD MY OQ KD TP LF HT WD CL FN MT DR DC CR KP z))) := re_D (ws' := cX G x t p im sa qo wo qi wi qs wd qp wp qh wh aw ad ac ao ax (va_up MR 0 r 0) (va_up MC 0 c 0) (MT 0) (CR 0) (MY 0) (MD 0) MW OQ DC DR SH IM (kp s 0)) hD [0, 18, 1, 2, 3, 4, 5, 19, 6, 7, 8, 9, 10, 11, 12, 13, 14, 15, 16, 17] (by decide) rfl
    refine W.widen (k := cells + 6) (n := slots + 83) (by show cells + 0 ≤ cells + 6; omega) (by show slots + 0 ≤ slots + 83; omega) ?_
    refine lv_aload_n hx hb dL_law_146 rfl (lv_at hl 2 rfl) ?_
    refine lv_aload_n hx hb dL_law_147 rfl (lv_at hl 0 rfl) ?_
    refine lv_iload_n hx hb dL_law_148 rfl (lv_at hl 3 rfl) ?_
    refine lv_iconst (v := iI (1)) hx hb dL_law_149 rfl ?_
    refine k_iaddN (a := i) (b := 1) hx hb dL_law_150 ?_
    refine k_sld hx hb hX hbl hbA hS (z := i + 1) (by omega) hL dL_law_151 ?_
    rw [← e1]
    refine lv_aload_n hx hb dL_law_152 rfl (lv_at hl 0 rfl) ?_
    refine lv_iload_n hx hb dL_law_153 rfl (lv_at hl 3 rfl) ?_
    refine lv_iconst (v := iI (2)) hx hb dL_law_154 rfl ?_
    refine k_iaddN (a := i) (b := 2) hx hb dL_law_155 ?_
    refine k_sld hx hb hX hbl hbA hS (z := i + 2) (by omega) hL dL_law_156 ?_
    rw [← e2]
    have hP := toM_P hP
    have hD := toM_D hD
    refine k_rwVY (rest := [.int (iI (b2i true))]) (wr := [(a19, .inl (G.2 0, 256, .inl (fun iX => iI (z.2.1 iX)))), (a20, .inl (G.2 0, 256, .inl (fun iX => iI ((z.2.2.1 iX : Nat) : Int)))), (a21, .inl (G.2 1, 256, .inl (fun iX => iI (b2i (z.2.2.2.1 iX))))), (a22, .inl (G.2 0, 256, .inl (fun iX => iI ((z.2.2.2.2 iX : Nat) : Int)))), (a3, .inl (G.2 0, 20, .inl (fun iX => iI ((MW iX : Nat) : Int)))), (a4, .inl (G.2 0, 5, .inl (fun iX => iI ((MD iX : Nat) : Int)))), (a5, .inl (G.2 0, 5, .inl (fun iX => iI ((MY iX : Nat) : Int)))), (a6, .inl (G.2 0, 150, .inl (fun iX => iI ((OQ iX : Nat) : Int)))), (a7, .inl (G.2 0, 150, .inl (fun iX => iI ((KD iX : Nat) : Int)))), (a8, .inl (G.2 0, 150, .inl (fun iX => iI (TP iX)))), (a9, .inl (G.2 0, 150, .inl (fun iX => iI (LF iX)))), (a10, .inl (G.2 0, 150, .inl (fun iX => iI ((HT iX : Nat) : Int)))), (a11, .inl (G.2 0, 150, .inl (fun iX => iI ((WD iX : Nat) : Int)))), (a12, .inl (G.2 0, 150, .inl (fun iX => iI ((CL iX : Nat) : Int)))), (a13, .inl (G.2 0, 150, .inl (fun iX => iI ((FN iX : Nat) : Int)))), (a14, .inl (G.2 0, 5, .inl (fun iX => iI ((MT iX : Nat) : Int)))), (a15, .inl (G.2 0, 20, .inl (fun iX => iI (DR iX)))), (a16, .inl (G.2 0, 20, .inl (fun iX => iI (DC iX)))), (a17, .inl (G.2 0, 5, .inl (fun iX => iI (CR iX)))), (a23, .inl (G.2 1, 4, .inl (fun iX => iI (b2i (KP iX)))))]) (w := [(m, .inr (5, [.int (iI (0)), .ref a1, .ref a2, .ref a3, .ref a4, .ref a5, .ref a6, .ref a7, .ref a8, .ref a9, .ref a10, .ref a11, .ref a12, .ref a13, .ref a14, .ref a15, .ref a16, .ref a17, .int (iI (b2i (z.1))), .ref a19, .ref a20, .ref a21, .ref a22, .ref a23])), (a1, .inl (G.2 0, 5, .inl (fun iX => iI ((MR iX : Nat) : Int)))), (a2, .inl (G.2 0, 5, .inl (fun iX => iI ((MC iX : Nat) : Int))))]) (v := []) [.int (iI (((r : Nat) : Int))), .int (iI (((c : Nat) : Int)))] ⟨hx, hb, hml, hown, hts⟩ (c_X5_page lM G H.size m a1 a2 a3 a4 a5 a6 a7 a8 a9 a10 a11 a12 a13 a14 a15 a16 a17 a19 a20 a21 a22 a23 z.1 r c MR MC (by omega) (by omega)) (cwV 2 hts gL_law_X5_page rfl rfl rfl (by decide +kernel) ⟨Nat.le_of_ble_eq_true rfl, Nat.le_of_ble_eq_true rfl⟩) hG (va_recv hG.1 hP (ci := 5) (q0 := 0) rfl rfl) hP hD hS hA [0, 5, 6] [1, 2, 3, 4, 7, 8, 9, 10, 11, 12, 13, 14, 15, 16, 17, 18, 19, 20, 21, 22] rfl rfl (by decide) (fun k q h => by simp at h) ap_nil rfl rfl hl.1 (Nat.le_of_ble_eq_true rfl) ⟨by show cells + 6 + 0 ≤ 600000; omega, by show slots + 83 + 0 ≤ 7302250; omega⟩ dL_law_157 (fun o9 w9 H locs h9 hP hD hS => ?_)
    obtain ⟨rfl, rfl⟩ := h9
    have hP : va_P G.1 vwCl (mX G m a1 a2 a3 a4 a5 a6 a7 a8 a9 a10 a11 a12 a13 a14 a15 a16 a17 a19 a20 a21 a22 a23 (va_up MR 0 r) (va_up MC 0 c) MW MD MY OQ KD TP LF HT WD CL FN MT DR DC CR KP (false, z.2) ++ (cX G x t p im sa qo wo qi wi qs wd qp wp qh wh aw ad ac ao ax (va_up MR 0 r 0) (va_up MC 0 c 0) (MT 0) (CR 0) (MY 0) (MD 0) MW OQ DC DR SH IM (kp s 0) ++ (va_pl LP f ++ imL I))) H := re_P (ws' := mX G m a1 a2 a3 a4 a5 a6 a7 a8 a9 a10 a11 a12 a13 a14 a15 a16 a17 a19 a20 a21 a22 a23 (va_up MR 0 r) (va_up MC 0 c) MW MD MY OQ KD TP LF HT WD CL FN MT DR DC CR KP (false, z.2)) hP [20, 0, 1, 2, 3, 21, 22, 4, 5, 6, 7, 8, 9, 10, 11, 12, 13, 14, 15, 16, 17, 18, 19] rfl
    have hD : va_D _ (mX G m a1 a2 a3 a4 a5 a6 a7 a8 a9 a10 a11 a12 a13 a14 a15 a16 a17 a19 a20 a21 a22 a23 (va_up MR 0 r) (va_up MC 0 c) MW MD MY OQ KD TP LF HT WD CL FN MT DR DC CR KP (false, z.2) ++ (cX G x t p im sa qo wo qi wi qs wd qp wp qh wh aw ad ac ao ax (va_up MR 0 r 0) (va_up MC 0 c 0) (MT 0) (CR 0) (MY 0) (MD 0) MW OQ DC DR SH IM (kp s 0) ++ (va_pl LP f ++ imL I))) := re_D (ws' := mX G m a1 a2 a3 a4 a5 a6 a7 a8 a9 a10 a11 a12 a13 a14 a15 a16 a17 a19 a20 a21 a22 a23 (va_up MR 0 r) (va_up MC 0 c) MW MD MY OQ KD TP LF HT WD CL FN MT DR DC CR KP (false, z.2)) hD [20, 0, 1, 2, 3, 21, 22, 4, 5, 6, 7, 8, 9, 10, 11, 12, 13, 14, 15, 16, 17, 18, 19] (by decide) rfl
    have hP := toC_P hP
    have hD := toC_D hD
    refine k_same (a := b2i true) (b := b2i true) (tgt := 885) hx hb (rfl) dL_law_160 (by decide) ?_
    exact next H locs ls ⟨t, p, im, sa, qo, wo, qi, wi, qs, wd, qp, wp, qh, wh, aw, ad, ac, ao, ax, a1, a2, a3, a4, a5, a6, a7, a8, a9, a10, a11, a12, a13, a14, a15, a16, a17, a19, a20, a21, a22, a23, LP, f, I, IM, SH, kp s 0, (false, z.2), va_up MR 0 r, va_up MC 0 c, MW, MD, MY, OQ, KD, TP, LF, HT, WD, CL, FN, MT, DR, DC, CR, KP, hP, hD, ⟨⟨(up_all (P := fun y => y ≤ 16) (by omega) rMR), (up_all (P := fun y => y ≤ 16) (by omega) rMC), rMW, rOQ, rKD, rTP, rLF, rHT, rWD, rCL, rFN, rMT, rDR, rDC, rCR⟩, hSh, wV_0 hW.1, zV_f hZ.1, (fun k hk => imR_mono (hIm k hk) pool_same (sl_up (b := 1) (by omega)) (sl_up (b := 1) (by omega)) (fun _ _ => rfl) (fun _ _ => rfl) (fun _ _ => rfl) (fun _ _ => rfl) (fun _ _ => rfl) (fun _ _ => rfl) (fun _ _ => rfl) (fun _ _ => rfl) (fun _ _ => rfl) (fun _ _ => rfl) (fun _ _ => rfl) (fun _ _ => rfl) (fun _ _ => rfl) (fun _ _ => rfl) (fun _ _ => rfl))⟩⟩ hS (lv_sub hl [0, 1, 2, 3] rfl)
  · refine lv_aload_n hx hb dL_law_132 rfl (lv_at hl 1 rfl) ?_
    refine lv_aload_n hx hb dL_law_133 rfl (lv_at hl 0 rfl) ?_
    refine lv_iload_n hx hb dL_law_134 rfl (lv_at hl 3 rfl) ?_
    refine lv_iconst (v := iI (1)) hx hb dL_law_135 rfl ?_
    refine k_iaddN (a := i) (b := 1) hx hb dL_law_136 ?_
    refine k_sld hx hb hX hbl hbA hS (z := i + 1) (by omega) hL dL_law_137 ?_
    rw [← e1]
    refine lv_aload_n hx hb dL_law_138 rfl (lv_at hl 0 rfl) ?_
    refine lv_iload_n hx hb dL_law_139 rfl (lv_at hl 3 rfl) ?_
    refine lv_iconst (v := iI (2)) hx hb dL_law_140 rfl ?_
    refine k_iaddN (a := i) (b := 2) hx hb dL_law_141 ?_
    refine k_sld hx hb hX hbl hbA hS (z := i + 2) (by omega) hL dL_law_142 ?_
    rw [← e2]
    refine k_roV (rest := []) [.int (iI (v1)), .int (iI (v2))] ⟨hx, hb, hml, hown, hts⟩ (c_X4_page_N lM G x v1 v2 hv (by omega) (by omega)) (cwV 2 hts gL_law_X4_page rfl rfl rfl (by decide +kernel) ⟨Nat.le_of_ble_eq_true rfl, Nat.le_of_ble_eq_true rfl⟩) hG (va_recv hG.1 hP (ci := 4) (q0 := 0) rfl rfl) (fun k q h => by simp at h) rfl rfl hl.1 (Nat.le_of_ble_eq_true rfl) ⟨by show cells ≤ 600000; omega, by show slots ≤ 7302250; omega⟩ dL_law_143 ?_
    refine W.widen (k := cells + 6) (n := slots + 83) (by show cells + 0 ≤ cells + 6; omega) (by show slots + 0 ≤ slots + 83; omega) ?_
    refine lv_aload_n hx hb dL_law_146 rfl (lv_at hl 2 rfl) ?_
    refine lv_aload_n hx hb dL_law_147 rfl (lv_at hl 0 rfl) ?_
    refine lv_iload_n hx hb dL_law_148 rfl (lv_at hl 3 rfl) ?_
    refine lv_iconst (v := iI (1)) hx hb dL_law_149 rfl ?_
    refine k_iaddN (a := i) (b := 1) hx hb dL_law_150 ?_
    refine k_sld hx hb hX hbl hbA hS (z := i + 1) (by omega) hL dL_law_151 ?_
    rw [← e1]
    refine lv_aload_n hx hb dL_law_152 rfl (lv_at hl 0 rfl) ?_
    refine lv_iload_n hx hb dL_law_153 rfl (lv_at hl 3 rfl) ?_
    refine lv_iconst (v := iI (2)) hx hb dL_law_154 rfl ?_
    refine k_iaddN (a := i) (b := 2) hx hb dL_law_155 ?_
    refine k_sld hx hb hX hbl hbA hS (z := i + 2) (by omega) hL dL_law_156 ?_
    rw [← e2]
    have hP := toM_P hP
    have hD := toM_D hD
    refine k_rwVY (rest := [.int (iI (b2i false))]) (wr := [(a19, .inl (G.2 0, 256, .inl (fun iX => iI (z.2.1 iX)))), (a20, .inl (G.2 0, 256, .inl (fun iX => iI ((z.2.2.1 iX : Nat) : Int)))), (a21, .inl (G.2 1, 256, .inl (fun iX => iI (b2i (z.2.2.2.1 iX))))), (a22, .inl (G.2 0, 256, .inl (fun iX => iI ((z.2.2.2.2 iX : Nat) : Int)))), (a1, .inl (G.2 0, 5, .inl (fun iX => iI ((MR iX : Nat) : Int)))), (a2, .inl (G.2 0, 5, .inl (fun iX => iI ((MC iX : Nat) : Int)))), (a3, .inl (G.2 0, 20, .inl (fun iX => iI ((MW iX : Nat) : Int)))), (a4, .inl (G.2 0, 5, .inl (fun iX => iI ((MD iX : Nat) : Int)))), (a5, .inl (G.2 0, 5, .inl (fun iX => iI ((MY iX : Nat) : Int)))), (a6, .inl (G.2 0, 150, .inl (fun iX => iI ((OQ iX : Nat) : Int)))), (a7, .inl (G.2 0, 150, .inl (fun iX => iI ((KD iX : Nat) : Int)))), (a8, .inl (G.2 0, 150, .inl (fun iX => iI (TP iX)))), (a9, .inl (G.2 0, 150, .inl (fun iX => iI (LF iX)))), (a10, .inl (G.2 0, 150, .inl (fun iX => iI ((HT iX : Nat) : Int)))), (a11, .inl (G.2 0, 150, .inl (fun iX => iI ((WD iX : Nat) : Int)))), (a12, .inl (G.2 0, 150, .inl (fun iX => iI ((CL iX : Nat) : Int)))), (a13, .inl (G.2 0, 150, .inl (fun iX => iI ((FN iX : Nat) : Int)))), (a14, .inl (G.2 0, 5, .inl (fun iX => iI ((MT iX : Nat) : Int)))), (a15, .inl (G.2 0, 20, .inl (fun iX => iI (DR iX)))), (a16, .inl (G.2 0, 20, .inl (fun iX => iI (DC iX)))), (a17, .inl (G.2 0, 5, .inl (fun iX => iI (CR iX)))), (a23, .inl (G.2 1, 4, .inl (fun iX => iI (b2i (KP iX)))))]) (w := [(m, .inr (5, [.int (iI (0)), .ref a1, .ref a2, .ref a3, .ref a4, .ref a5, .ref a6, .ref a7, .ref a8, .ref a9, .ref a10, .ref a11, .ref a12, .ref a13, .ref a14, .ref a15, .ref a16, .ref a17, .int (iI (b2i (z.1))), .ref a19, .ref a20, .ref a21, .ref a22, .ref a23]))]) (v := []) [.int (iI (v1)), .int (iI (v2))] ⟨hx, hb, hml, hown, hts⟩ (c_X5_page_N lM G H.size m a1 a2 a3 a4 a5 a6 a7 a8 a9 a10 a11 a12 a13 a14 a15 a16 a17 a19 a20 a21 a22 a23 z.1 v1 v2 hv (by omega) (by omega)) (cwV 2 hts gL_law_X5_page rfl rfl rfl (by decide +kernel) ⟨Nat.le_of_ble_eq_true rfl, Nat.le_of_ble_eq_true rfl⟩) hG (va_recv hG.1 hP (ci := 5) (q0 := 0) rfl rfl) hP hD hS hA [0] [1, 2, 3, 4, 5, 6, 7, 8, 9, 10, 11, 12, 13, 14, 15, 16, 17, 18, 19, 20, 21, 22] rfl rfl (by decide) (fun k q h => by simp at h) ap_nil rfl rfl hl.1 (Nat.le_of_ble_eq_true rfl) ⟨by show cells + 6 + 0 ≤ 600000; omega, by show slots + 83 + 0 ≤ 7302250; omega⟩ dL_law_157 (fun o9 w9 H locs h9 hP hD hS => ?_)
    obtain ⟨rfl, rfl⟩ := h9
    have hP : va_P G.1 vwCl (mX G m a1 a2 a3 a4 a5 a6 a7 a8 a9 a10 a11 a12 a13 a14 a15 a16 a17 a19 a20 a21 a22 a23 MR MC MW MD MY OQ KD TP LF HT WD CL FN MT DR DC CR KP z ++ (cX G x t p im sa qo wo qi wi qs wd qp wp qh wh aw ad ac ao ax (MR 0) (MC 0) (MT 0) (CR 0) (MY 0) (MD 0) MW OQ DC DR SH IM s ++ (va_pl LP f ++ imL I))) H := re_P (ws' := mX G m a1 a2 a3 a4 a5 a6 a7 a8 a9 a10 a11 a12 a13 a14 a15 a16 a17 a19 a20 a21 a22 a23 MR MC MW MD MY OQ KD TP LF HT WD CL FN MT DR DC CR KP z) hP [22, 0, 1, 2, 3, 4, 5, 6, 7, 8, 9, 10, 11, 12, 13, 14, 15, 16, 17, 18, 19, 20, 21] rfl
    have hD : va_D _ (mX G m a1 a2 a3 a4 a5 a6 a7 a8 a9 a10 a11 a12 a13 a14 a15 a16 a17 a19 a20 a21 a22 a23 MR MC MW MD MY OQ KD TP LF HT WD CL FN MT DR DC CR KP z ++ (cX G x t p im sa qo wo qi wi qs wd qp wp qh wh aw ad ac ao ax (MR 0) (MC 0) (MT 0) (CR 0) (MY 0) (MD 0) MW OQ DC DR SH IM s ++ (va_pl LP f ++ imL I))) := re_D (ws' := mX G m a1 a2 a3 a4 a5 a6 a7 a8 a9 a10 a11 a12 a13 a14 a15 a16 a17 a19 a20 a21 a22 a23 MR MC MW MD MY OQ KD TP LF HT WD CL FN MT DR DC CR KP z) hD [22, 0, 1, 2, 3, 4, 5, 6, 7, 8, 9, 10, 11, 12, 13, 14, 15, 16, 17, 18, 19, 20, 21] (by decide) rfl
    have hP := toC_P hP
    have hD := toC_D hD
    refine k_same (a := b2i false) (b := b2i false) (tgt := 885) hx hb (rfl) dL_law_160 (by decide) ?_
    exact next H locs ls ⟨t, p, im, sa, qo, wo, qi, wi, qs, wd, qp, wp, qh, wh, aw, ad, ac, ao, ax, a1, a2, a3, a4, a5, a6, a7, a8, a9, a10, a11, a12, a13, a14, a15, a16, a17, a19, a20, a21, a22, a23, LP, f, I, IM, SH, s, z, MR, MC, MW, MD, MY, OQ, KD, TP, LF, HT, WD, CL, FN, MT, DR, DC, CR, KP, hP, hD, ⟨⟨rMR, rMC, rMW, rOQ, rKD, rTP, rLF, rHT, rWD, rCL, rFN, rMT, rDR, rDC, rCR⟩, hSh, hW, hZ, (fun k hk => imR_mono (hIm k hk) pool_same (fun _ _ => rfl) (fun _ _ => rfl) (fun _ _ => rfl) (fun _ _ => rfl) (fun _ _ => rfl) (fun _ _ => rfl) (fun _ _ => rfl) (fun _ _ => rfl) (fun _ _ => rfl) (fun _ _ => rfl) (fun _ _ => rfl) (fun _ _ => rfl) (fun _ _ => rfl) (fun _ _ => rfl) (fun _ _ => rfl) (fun _ _ => rfl) (fun _ _ => rfl))⟩⟩ hS (lv_sub hl [0, 1, 2, 3] rfl)

set_option maxHeartbeats 4000000 in
set_option maxRecDepth 100000 in
theorem law_weight (lM : Launch) {pM : Program} {eM : Env} {sM : State} {mM : MethodId} {bM : List Frame} {tM : Method} {cM : Code} {b L : Nat} {xs : Nat → Int32} {G : GG} {Q : State → Prop} (C : lcx pM sM mM cM b L xs G) (hL : L ≤ 4096) (x m i cells slots : Nat) (hi : i + 8 ≤ L) (hcl : cells + 6 ≤ 600000) (hsl : slots + 83 ≤ 7302250) (next : ∀ (H : Heap) (locs : List Loc) (ls : Array Slot), INV G (fun q => sM.heap.size ≤ q) x m H → va_S (fun q => sM.heap.size ≤ q) sM.heap H locs → lv_has ls 4 [(0, .ref b), (1, .ref x), (2, .ref m), (3, .int (iI ((i : Nat) : Int)))] → W pM lM eM room_1 sM mM #[Value.ref b] bM tM cM H locs (cells + 6) (slots + 83) Q (F0 mM 885 ls [])) (H : Heap) (locs : List Loc) (ls : Array Slot) (hI : INV G (fun q => sM.heap.size ≤ q) x m H) (hS : va_S (fun q => sM.heap.size ≤ q) sM.heap H locs) (hl : lv_has ls 4 [(0, .ref b), (1, .ref x), (2, .ref m), (3, .int (iI ((i : Nat) : Int)))]) : W pM lM eM room_1 sM mM #[Value.ref b] bM tM cM H locs cells slots Q (F0 mM 165 ls []) := by
  obtain ⟨hx, hb, hml, hown, hts, hX, hbl, hG⟩ := C
  have hA : ∀ q : Nat, sM.heap.size ≤ q → (fun q => sM.heap.size ≤ q) q := fun _ h => h
  have hbA : ¬ (fun q => sM.heap.size ≤ q) b := Nat.not_le.mpr hbl
  obtain ⟨t, p, im, sa, qo, wo, qi, wi, qs, wd, qp, wp, qh, wh, aw, ad, ac, ao, ax, a1, a2, a3, a4, a5, a6, a7, a8, a9, a10, a11, a12, a13, a14, a15, a16, a17, a19, a20, a21, a22, a23, LP, f, I, IM, SH, s, z, MR, MC, MW, MD, MY, OQ, KD, TP, LF, HT, WD, CL, FN, MT, DR, DC, CR, KP, hP, hD, hO⟩ := hI
  obtain ⟨hRn, hSh, hW, hZ, hIm⟩ := hO
  obtain ⟨rMR, rMC, rMW, rOQ, rKD, rTP, rLF, rHT, rWD, rCL, rFN, rMT, rDR, rDC, rCR⟩ := hRn
  have k1 := rMR 0
  have k2 := rMC 0
  have k3 := rMT 0
  have k4 := rCR 0
  have k5 := hSh.2.2.2.2.1
  have k6 := hSh.2.2.2.2.2
  have k7 := hW.1.2.2.2.2
  obtain ⟨v1, e1⟩ : ∃ v : Int, v = (xs (i + 1)).toInt := ⟨_, rfl⟩
  have b1 : -2147483648 ≤ v1 ∧ v1 < 2147483648 := by rw [e1]; exact iI_rng _
  obtain ⟨v2, e2⟩ : ∃ v : Int, v = (xs (i + 2)).toInt := ⟨_, rfl⟩
  have b2 : -2147483648 ≤ v2 ∧ v2 < 2147483648 := by rw [e2]; exact iI_rng _
  by_cases hv : (0 ≤ v1 ∧ v1 ≤ 3) ∧ (0 ≤ v2 ∧ v2 ≤ 20)
  · obtain ⟨j, rfl⟩ : ∃ j : Nat, v1 = (j : Int) := ⟨(v1).toNat, by omega⟩
    obtain ⟨v, rfl⟩ : ∃ v : Nat, v2 = (v : Int) := ⟨(v2).toNat, by omega⟩
    refine lv_aload_n hx hb dL_law_165 rfl (lv_at hl 1 rfl) ?_
    refine lv_aload_n hx hb dL_law_166 rfl (lv_at hl 0 rfl) ?_
    refine lv_iload_n hx hb dL_law_167 rfl (lv_at hl 3 rfl) ?_
    refine lv_iconst (v := iI (1)) hx hb dL_law_168 rfl ?_
    refine k_iaddN (a := i) (b := 1) hx hb dL_law_169 ?_
    refine k_sld hx hb hX hbl hbA hS (z := i + 1) (by omega) hL dL_law_170 ?_
    rw [← e1]
    refine lv_aload_n hx hb dL_law_171 rfl (lv_at hl 0 rfl) ?_
    refine lv_iload_n hx hb dL_law_172 rfl (lv_at hl 3 rfl) ?_
    refine lv_iconst (v := iI (2)) hx hb dL_law_173 rfl ?_
    refine k_iaddN (a := i) (b := 2) hx hb dL_law_174 ?_
    refine k_sld hx hb hX hbl hbA hS (z := i + 2) (by omega) hL dL_law_175 ?_
    rw [← e2]
    refine k_rwVY (rest := []) (wr := [(x, .inr (4, [.ref t, .ref p, .ref im])), (t, .inr (3, [.int (iI ((((MR 0) : Nat) : Int))), .int (iI ((((MC 0) : Nat) : Int))), .int (iI ((((MT 0) : Nat) : Int))), .int (iI ((CR 0))), .int (iI ((((MY 0) : Nat) : Int))), .int (iI ((((MD 0) : Nat) : Int))), .ref aw, .ref ad, .ref ac, .ref ao, .ref ax])), (ad, .inl (G.2 0, 4, .inl (fun iX => iI (DR iX)))), (ac, .inl (G.2 0, 4, .inl (fun iX => iI (DC iX)))), (ao, .inl (G.2 0, 30, .inl (fun iX => iI ((OQ iX : Nat) : Int)))), (ax, .inl (G.2 2, 30, .inr (.inr (.inr (.inr SH))))), (sa, .inl (G.2 0, 256, .inl (fun iX => iI (s.1.1 iX)))), (wi, .inl (G.2 0, 4 * 16, .inl (fun iX => iI ((s.1.2.1 iX : Nat) : Int)))), (wo, .inl (G.2 0, 16 * 16, .inl (fun iX => iI ((s.1.2.2.1 iX : Nat) : Int)))), (wd, .inl (G.2 0, 1 * 16, .inl (fun iX => iI ((s.1.2.2.2 iX : Nat) : Int)))), (wp, .inl (G.2 0, 4 * 16, .inl (fun iX => iI ((s.2.1 iX : Nat) : Int)))), (wh, .inl (G.2 0, 4 * 16, .inl (fun iX => iI ((s.2.2.1 iX : Nat) : Int)))), (qo, .inr (0, [.int (iI (16)), .ref wo])), (qi, .inr (0, [.int (iI (4)), .ref wi])), (qs, .inr (0, [.int (iI (1)), .ref wd])), (qp, .inr (0, [.int (iI (4)), .ref wp])), (qh, .inr (0, [.int (iI (4)), .ref wh])), (im, .inl (G.2 3, 4, .inr (.inr (.inr (.inr IM)))))]) (w := [(aw, .inl (G.2 0, 4, .inl (fun iX => iI ((MW iX : Nat) : Int)))), (p, .inr (1, [.ref sa, .ref qo, .ref qi, .ref qs, .ref qp, .ref qh, .int (iI ((((s.2.2.2) : Nat) : Int)))]))]) (v := [(x, .inr (4, [.ref t, .ref p, .ref im])), (t, .inr (3, [.int (iI ((((MR 0) : Nat) : Int))), .int (iI ((((MC 0) : Nat) : Int))), .int (iI ((((MT 0) : Nat) : Int))), .int (iI ((CR 0))), .int (iI ((((MY 0) : Nat) : Int))), .int (iI ((((MD 0) : Nat) : Int))), .ref aw, .ref ad, .ref ac, .ref ao, .ref ax]))]) [.int (iI (((j : Nat) : Int))), .int (iI (((v : Nat) : Int)))] ⟨hx, hb, hml, hown, hts⟩ (c_X4_weight lM G H.size x im t (MR 0) (MC 0) (MT 0) (CR 0) (MY 0) (MD 0) aw ad ac ao ax p sa qo qi qs qp qh s.2.2.2 MW j v (by omega) (by omega) (by omega)) (cwV 2 hts gL_law_X4_weight rfl rfl rfl (by decide +kernel) ⟨Nat.le_of_ble_eq_true rfl, Nat.le_of_ble_eq_true rfl⟩) hG (va_recv hG.1 hP (ci := 4) (q0 := 0) rfl rfl) hP hD hS hA [2, 7] [0, 1, 3, 4, 5, 6, 8, 9, 10, 11, 12, 13, 14, 15, 16, 17, 18, 19] rfl rfl (by decide) (rd0 (vx := [(x, .inr (4, [.ref t, .ref p, .ref im])), (t, .inr (3, [.int (iI ((((MR 0) : Nat) : Int))), .int (iI ((((MC 0) : Nat) : Int))), .int (iI ((((MT 0) : Nat) : Int))), .int (iI ((CR 0))), .int (iI ((((MY 0) : Nat) : Int))), .int (iI ((((MD 0) : Nat) : Int))), .ref aw, .ref ad, .ref ac, .ref ao, .ref ax]))]) hP [0, 1] rfl) (ap0 (vx := [(x, .inr (4, [.ref t, .ref p, .ref im])), (t, .inr (3, [.int (iI ((((MR 0) : Nat) : Int))), .int (iI ((((MC 0) : Nat) : Int))), .int (iI ((((MT 0) : Nat) : Int))), .int (iI ((CR 0))), .int (iI ((((MY 0) : Nat) : Int))), .int (iI ((((MD 0) : Nat) : Int))), .ref aw, .ref ad, .ref ac, .ref ao, .ref ax]))]) hD [2, 7] [0, 1] rfl rfl (by decide)) rfl rfl hl.1 (Nat.le_of_ble_eq_true rfl) ⟨by show cells + 0 ≤ 600000; omega, by show slots + 0 ≤ 7302250; omega⟩ dL_law_176 (fun o9 w9 H locs h9 hP hD hS => ?_)
    obtain ⟨rfl, rfl⟩ := h9
    have hP : va_P G.1 vwCl (cX G x t p im sa qo wo qi wi qs wd qp wp qh wh aw ad ac ao ax (MR 0) (MC 0) (MT 0) (CR 0) (MY 0) (MD 0) (va_up MW j v) OQ DC DR SH IM (kp s 1) ++ (va_pl LP f ++ (imL I ++ mX G m a1 a2 a3 a4 a5 a6 a7 a8 a9 a10 a11 a12 a13 a14 a15 a16 a17 a19 a20 a21 a22 a23 MR MC MW MD MY OQ KD TP LF HT WD CL FN MT DR DC CR KP z))) H := re_P (ws' := cX G x t p im sa qo wo qi wi qs wd qp wp qh wh aw ad ac ao ax (MR 0) (MC 0) (MT 0) (CR 0) (MY 0) (MD 0) (va_up MW j v) OQ DC DR SH IM (kp s 1)) hP [0, 1, 18, 2, 3, 4, 5, 19, 6, 7, 8, 9, 10, 11, 12, 13, 14, 15, 16, 17] rfl
    have hD : va_D _ (cX G x t p im sa qo wo qi wi qs wd qp wp qh wh aw ad ac ao ax (MR 0) (MC 0) (MT 0) (CR 0) (MY 0) (MD 0) (va_up MW j v) OQ DC DR SH IM (kp s 1) ++ (va_pl LP f ++ (imL I ++ mX G m a1 a2 a3 a4 a5 a6 a7 a8 a9 a10 a11 a12 a13 a14 a15 a16 a17 a19 a20 a21 a22 a23 MR MC MW MD MY OQ KD TP LF HT WD CL FN MT DR DC CR KP z))) := re_D (ws' := cX G x t p im sa qo wo qi wi qs wd qp wp qh wh aw ad ac ao ax (MR 0) (MC 0) (MT 0) (CR 0) (MY 0) (MD 0) (va_up MW j v) OQ DC DR SH IM (kp s 1)) hD [0, 1, 18, 2, 3, 4, 5, 19, 6, 7, 8, 9, 10, 11, 12, 13, 14, 15, 16, 17] (by decide) rfl
    refine W.widen (k := cells + 6) (n := slots + 83) (by show cells + 0 ≤ cells + 6; omega) (by show slots + 0 ≤ slots + 83; omega) ?_
    refine lv_aload_n hx hb dL_law_179 rfl (lv_at hl 2 rfl) ?_
    refine lv_aload_n hx hb dL_law_180 rfl (lv_at hl 0 rfl) ?_
    refine lv_iload_n hx hb dL_law_181 rfl (lv_at hl 3 rfl) ?_
    refine lv_iconst (v := iI (1)) hx hb dL_law_182 rfl ?_
    refine k_iaddN (a := i) (b := 1) hx hb dL_law_183 ?_
    refine k_sld hx hb hX hbl hbA hS (z := i + 1) (by omega) hL dL_law_184 ?_
    rw [← e1]
    refine lv_aload_n hx hb dL_law_185 rfl (lv_at hl 0 rfl) ?_
    refine lv_iload_n hx hb dL_law_186 rfl (lv_at hl 3 rfl) ?_
    refine lv_iconst (v := iI (2)) hx hb dL_law_187 rfl ?_
    refine k_iaddN (a := i) (b := 2) hx hb dL_law_188 ?_
    refine k_sld hx hb hX hbl hbA hS (z := i + 2) (by omega) hL dL_law_189 ?_
    rw [← e2]
    have hP := toM_P hP
    have hD := toM_D hD
    refine k_rwVY (rest := [.int (iI (b2i true))]) (wr := [(a19, .inl (G.2 0, 256, .inl (fun iX => iI (z.2.1 iX)))), (a20, .inl (G.2 0, 256, .inl (fun iX => iI ((z.2.2.1 iX : Nat) : Int)))), (a21, .inl (G.2 1, 256, .inl (fun iX => iI (b2i (z.2.2.2.1 iX))))), (a22, .inl (G.2 0, 256, .inl (fun iX => iI ((z.2.2.2.2 iX : Nat) : Int)))), (a1, .inl (G.2 0, 5, .inl (fun iX => iI ((MR iX : Nat) : Int)))), (a2, .inl (G.2 0, 5, .inl (fun iX => iI ((MC iX : Nat) : Int)))), (a4, .inl (G.2 0, 5, .inl (fun iX => iI ((MD iX : Nat) : Int)))), (a5, .inl (G.2 0, 5, .inl (fun iX => iI ((MY iX : Nat) : Int)))), (a6, .inl (G.2 0, 150, .inl (fun iX => iI ((OQ iX : Nat) : Int)))), (a7, .inl (G.2 0, 150, .inl (fun iX => iI ((KD iX : Nat) : Int)))), (a8, .inl (G.2 0, 150, .inl (fun iX => iI (TP iX)))), (a9, .inl (G.2 0, 150, .inl (fun iX => iI (LF iX)))), (a10, .inl (G.2 0, 150, .inl (fun iX => iI ((HT iX : Nat) : Int)))), (a11, .inl (G.2 0, 150, .inl (fun iX => iI ((WD iX : Nat) : Int)))), (a12, .inl (G.2 0, 150, .inl (fun iX => iI ((CL iX : Nat) : Int)))), (a13, .inl (G.2 0, 150, .inl (fun iX => iI ((FN iX : Nat) : Int)))), (a14, .inl (G.2 0, 5, .inl (fun iX => iI ((MT iX : Nat) : Int)))), (a15, .inl (G.2 0, 20, .inl (fun iX => iI (DR iX)))), (a16, .inl (G.2 0, 20, .inl (fun iX => iI (DC iX)))), (a17, .inl (G.2 0, 5, .inl (fun iX => iI (CR iX)))), (a23, .inl (G.2 1, 4, .inl (fun iX => iI (b2i (KP iX)))))]) (w := [(m, .inr (5, [.int (iI (0)), .ref a1, .ref a2, .ref a3, .ref a4, .ref a5, .ref a6, .ref a7, .ref a8, .ref a9, .ref a10, .ref a11, .ref a12, .ref a13, .ref a14, .ref a15, .ref a16, .ref a17, .int (iI (b2i (z.1))), .ref a19, .ref a20, .ref a21, .ref a22, .ref a23])), (a3, .inl (G.2 0, 20, .inl (fun iX => iI ((MW iX : Nat) : Int))))]) (v := []) [.int (iI (((j : Nat) : Int))), .int (iI (((v : Nat) : Int)))] ⟨hx, hb, hml, hown, hts⟩ (c_X5_weight lM G H.size m a1 a2 a3 a4 a5 a6 a7 a8 a9 a10 a11 a12 a13 a14 a15 a16 a17 a19 a20 a21 a22 a23 z.1 j v MW (by omega) (by omega)) (cwV 2 hts gL_law_X5_weight rfl rfl rfl (by decide +kernel) ⟨Nat.le_of_ble_eq_true rfl, Nat.le_of_ble_eq_true rfl⟩) hG (va_recv hG.1 hP (ci := 5) (q0 := 0) rfl rfl) hP hD hS hA [0, 7] [1, 2, 3, 4, 5, 6, 8, 9, 10, 11, 12, 13, 14, 15, 16, 17, 18, 19, 20, 21, 22] rfl rfl (by decide) (fun k q h => by simp at h) ap_nil rfl rfl hl.1 (Nat.le_of_ble_eq_true rfl) ⟨by show cells + 6 + 0 ≤ 600000; omega, by show slots + 83 + 0 ≤ 7302250; omega⟩ dL_law_190 (fun o9 w9 H locs h9 hP hD hS => ?_)
    obtain ⟨rfl, rfl⟩ := h9
    have hP : va_P G.1 vwCl (mX G m a1 a2 a3 a4 a5 a6 a7 a8 a9 a10 a11 a12 a13 a14 a15 a16 a17 a19 a20 a21 a22 a23 MR MC (va_up MW j v) MD MY OQ KD TP LF HT WD CL FN MT DR DC CR KP (false, z.2) ++ (cX G x t p im sa qo wo qi wi qs wd qp wp qh wh aw ad ac ao ax (MR 0) (MC 0) (MT 0) (CR 0) (MY 0) (MD 0) (va_up MW j v) OQ DC DR SH IM (kp s 1) ++ (va_pl LP f ++ imL I))) H := re_P (ws' := mX G m a1 a2 a3 a4 a5 a6 a7 a8 a9 a10 a11 a12 a13 a14 a15 a16 a17 a19 a20 a21 a22 a23 MR MC (va_up MW j v) MD MY OQ KD TP LF HT WD CL FN MT DR DC CR KP (false, z.2)) hP [21, 0, 1, 2, 3, 4, 5, 22, 6, 7, 8, 9, 10, 11, 12, 13, 14, 15, 16, 17, 18, 19, 20] rfl
    have hD : va_D _ (mX G m a1 a2 a3 a4 a5 a6 a7 a8 a9 a10 a11 a12 a13 a14 a15 a16 a17 a19 a20 a21 a22 a23 MR MC (va_up MW j v) MD MY OQ KD TP LF HT WD CL FN MT DR DC CR KP (false, z.2) ++ (cX G x t p im sa qo wo qi wi qs wd qp wp qh wh aw ad ac ao ax (MR 0) (MC 0) (MT 0) (CR 0) (MY 0) (MD 0) (va_up MW j v) OQ DC DR SH IM (kp s 1) ++ (va_pl LP f ++ imL I))) := re_D (ws' := mX G m a1 a2 a3 a4 a5 a6 a7 a8 a9 a10 a11 a12 a13 a14 a15 a16 a17 a19 a20 a21 a22 a23 MR MC (va_up MW j v) MD MY OQ KD TP LF HT WD CL FN MT DR DC CR KP (false, z.2)) hD [21, 0, 1, 2, 3, 4, 5, 22, 6, 7, 8, 9, 10, 11, 12, 13, 14, 15, 16, 17, 18, 19, 20] (by decide) rfl
    have hP := toC_P hP
    have hD := toC_D hD
    refine k_same (a := b2i true) (b := b2i true) (tgt := 885) hx hb (rfl) dL_law_193 (by decide) ?_
    exact next H locs ls ⟨t, p, im, sa, qo, wo, qi, wi, qs, wd, qp, wp, qh, wh, aw, ad, ac, ao, ax, a1, a2, a3, a4, a5, a6, a7, a8, a9, a10, a11, a12, a13, a14, a15, a16, a17, a19, a20, a21, a22, a23, LP, f, I, IM, SH, kp s 1, (false, z.2), MR, MC, va_up MW j v, MD, MY, OQ, KD, TP, LF, HT, WD, CL, FN, MT, DR, DC, CR, KP, hP, hD, ⟨⟨rMR, rMC, (up_all (P := fun y => y ≤ 20) (by omega) rMW), rOQ, rKD, rTP, rLF, rHT, rWD, rCL, rFN, rMT, rDR, rDC, rCR⟩, hSh, wV_k1 hW, zV_f hZ.1, (fun k hk => imR_mono (hIm k hk) pool_same (fun _ _ => rfl) (fun _ _ => rfl) (sl_up (b := 4) (by omega)) (fun _ _ => rfl) (fun _ _ => rfl) (fun _ _ => rfl) (fun _ _ => rfl) (fun _ _ => rfl) (fun _ _ => rfl) (fun _ _ => rfl) (fun _ _ => rfl) (fun _ _ => rfl) (fun _ _ => rfl) (fun _ _ => rfl) (fun _ _ => rfl) (fun _ _ => rfl) (fun _ _ => rfl))⟩⟩ hS (lv_sub hl [0, 1, 2, 3] rfl)
  · refine lv_aload_n hx hb dL_law_165 rfl (lv_at hl 1 rfl) ?_
    refine lv_aload_n hx hb dL_law_166 rfl (lv_at hl 0 rfl) ?_
    refine lv_iload_n hx hb dL_law_167 rfl (lv_at hl 3 rfl) ?_
    refine lv_iconst (v := iI (1)) hx hb dL_law_168 rfl ?_
    refine k_iaddN (a := i) (b := 1) hx hb dL_law_169 ?_
    refine k_sld hx hb hX hbl hbA hS (z := i + 1) (by omega) hL dL_law_170 ?_
    rw [← e1]
    refine lv_aload_n hx hb dL_law_171 rfl (lv_at hl 0 rfl) ?_
    refine lv_iload_n hx hb dL_law_172 rfl (lv_at hl 3 rfl) ?_
    refine lv_iconst (v := iI (2)) hx hb dL_law_173 rfl ?_
    refine k_iaddN (a := i) (b := 2) hx hb dL_law_174 ?_
    refine k_sld hx hb hX hbl hbA hS (z := i + 2) (by omega) hL dL_law_175 ?_
    rw [← e2]
    refine k_roV (rest := []) [.int (iI (v1)), .int (iI (v2))] ⟨hx, hb, hml, hown, hts⟩ (c_X4_weight_N lM G x v1 v2 hv (by omega) (by omega)) (cwV 2 hts gL_law_X4_weight rfl rfl rfl (by decide +kernel) ⟨Nat.le_of_ble_eq_true rfl, Nat.le_of_ble_eq_true rfl⟩) hG (va_recv hG.1 hP (ci := 4) (q0 := 0) rfl rfl) (fun k q h => by simp at h) rfl rfl hl.1 (Nat.le_of_ble_eq_true rfl) ⟨by show cells ≤ 600000; omega, by show slots ≤ 7302250; omega⟩ dL_law_176 ?_
    refine W.widen (k := cells + 6) (n := slots + 83) (by show cells + 0 ≤ cells + 6; omega) (by show slots + 0 ≤ slots + 83; omega) ?_
    refine lv_aload_n hx hb dL_law_179 rfl (lv_at hl 2 rfl) ?_
    refine lv_aload_n hx hb dL_law_180 rfl (lv_at hl 0 rfl) ?_
    refine lv_iload_n hx hb dL_law_181 rfl (lv_at hl 3 rfl) ?_
    refine lv_iconst (v := iI (1)) hx hb dL_law_182 rfl ?_
    refine k_iaddN (a := i) (b := 1) hx hb dL_law_183 ?_
    refine k_sld hx hb hX hbl hbA hS (z := i + 1) (by omega) hL dL_law_184 ?_
    rw [← e1]
    refine lv_aload_n hx hb dL_law_185 rfl (lv_at hl 0 rfl) ?_
    refine lv_iload_n hx hb dL_law_186 rfl (lv_at hl 3 rfl) ?_
    refine lv_iconst (v := iI (2)) hx hb dL_law_187 rfl ?_
    refine k_iaddN (a := i) (b := 2) hx hb dL_law_188 ?_
    refine k_sld hx hb hX hbl hbA hS (z := i + 2) (by omega) hL dL_law_189 ?_
    rw [← e2]
    have hP := toM_P hP
    have hD := toM_D hD
    refine k_rwVY (rest := [.int (iI (b2i false))]) (wr := [(a19, .inl (G.2 0, 256, .inl (fun iX => iI (z.2.1 iX)))), (a20, .inl (G.2 0, 256, .inl (fun iX => iI ((z.2.2.1 iX : Nat) : Int)))), (a21, .inl (G.2 1, 256, .inl (fun iX => iI (b2i (z.2.2.2.1 iX))))), (a22, .inl (G.2 0, 256, .inl (fun iX => iI ((z.2.2.2.2 iX : Nat) : Int)))), (a1, .inl (G.2 0, 5, .inl (fun iX => iI ((MR iX : Nat) : Int)))), (a2, .inl (G.2 0, 5, .inl (fun iX => iI ((MC iX : Nat) : Int)))), (a3, .inl (G.2 0, 20, .inl (fun iX => iI ((MW iX : Nat) : Int)))), (a4, .inl (G.2 0, 5, .inl (fun iX => iI ((MD iX : Nat) : Int)))), (a5, .inl (G.2 0, 5, .inl (fun iX => iI ((MY iX : Nat) : Int)))), (a6, .inl (G.2 0, 150, .inl (fun iX => iI ((OQ iX : Nat) : Int)))), (a7, .inl (G.2 0, 150, .inl (fun iX => iI ((KD iX : Nat) : Int)))), (a8, .inl (G.2 0, 150, .inl (fun iX => iI (TP iX)))), (a9, .inl (G.2 0, 150, .inl (fun iX => iI (LF iX)))), (a10, .inl (G.2 0, 150, .inl (fun iX => iI ((HT iX : Nat) : Int)))), (a11, .inl (G.2 0, 150, .inl (fun iX => iI ((WD iX : Nat) : Int)))), (a12, .inl (G.2 0, 150, .inl (fun iX => iI ((CL iX : Nat) : Int)))), (a13, .inl (G.2 0, 150, .inl (fun iX => iI ((FN iX : Nat) : Int)))), (a14, .inl (G.2 0, 5, .inl (fun iX => iI ((MT iX : Nat) : Int)))), (a15, .inl (G.2 0, 20, .inl (fun iX => iI (DR iX)))), (a16, .inl (G.2 0, 20, .inl (fun iX => iI (DC iX)))), (a17, .inl (G.2 0, 5, .inl (fun iX => iI (CR iX)))), (a23, .inl (G.2 1, 4, .inl (fun iX => iI (b2i (KP iX)))))]) (w := [(m, .inr (5, [.int (iI (0)), .ref a1, .ref a2, .ref a3, .ref a4, .ref a5, .ref a6, .ref a7, .ref a8, .ref a9, .ref a10, .ref a11, .ref a12, .ref a13, .ref a14, .ref a15, .ref a16, .ref a17, .int (iI (b2i (z.1))), .ref a19, .ref a20, .ref a21, .ref a22, .ref a23]))]) (v := []) [.int (iI (v1)), .int (iI (v2))] ⟨hx, hb, hml, hown, hts⟩ (c_X5_weight_N lM G H.size m a1 a2 a3 a4 a5 a6 a7 a8 a9 a10 a11 a12 a13 a14 a15 a16 a17 a19 a20 a21 a22 a23 z.1 v1 v2 hv (by omega) (by omega)) (cwV 2 hts gL_law_X5_weight rfl rfl rfl (by decide +kernel) ⟨Nat.le_of_ble_eq_true rfl, Nat.le_of_ble_eq_true rfl⟩) hG (va_recv hG.1 hP (ci := 5) (q0 := 0) rfl rfl) hP hD hS hA [0] [1, 2, 3, 4, 5, 6, 7, 8, 9, 10, 11, 12, 13, 14, 15, 16, 17, 18, 19, 20, 21, 22] rfl rfl (by decide) (fun k q h => by simp at h) ap_nil rfl rfl hl.1 (Nat.le_of_ble_eq_true rfl) ⟨by show cells + 6 + 0 ≤ 600000; omega, by show slots + 83 + 0 ≤ 7302250; omega⟩ dL_law_190 (fun o9 w9 H locs h9 hP hD hS => ?_)
    obtain ⟨rfl, rfl⟩ := h9
    have hP : va_P G.1 vwCl (mX G m a1 a2 a3 a4 a5 a6 a7 a8 a9 a10 a11 a12 a13 a14 a15 a16 a17 a19 a20 a21 a22 a23 MR MC MW MD MY OQ KD TP LF HT WD CL FN MT DR DC CR KP z ++ (cX G x t p im sa qo wo qi wi qs wd qp wp qh wh aw ad ac ao ax (MR 0) (MC 0) (MT 0) (CR 0) (MY 0) (MD 0) MW OQ DC DR SH IM s ++ (va_pl LP f ++ imL I))) H := re_P (ws' := mX G m a1 a2 a3 a4 a5 a6 a7 a8 a9 a10 a11 a12 a13 a14 a15 a16 a17 a19 a20 a21 a22 a23 MR MC MW MD MY OQ KD TP LF HT WD CL FN MT DR DC CR KP z) hP [22, 0, 1, 2, 3, 4, 5, 6, 7, 8, 9, 10, 11, 12, 13, 14, 15, 16, 17, 18, 19, 20, 21] rfl
    have hD : va_D _ (mX G m a1 a2 a3 a4 a5 a6 a7 a8 a9 a10 a11 a12 a13 a14 a15 a16 a17 a19 a20 a21 a22 a23 MR MC MW MD MY OQ KD TP LF HT WD CL FN MT DR DC CR KP z ++ (cX G x t p im sa qo wo qi wi qs wd qp wp qh wh aw ad ac ao ax (MR 0) (MC 0) (MT 0) (CR 0) (MY 0) (MD 0) MW OQ DC DR SH IM s ++ (va_pl LP f ++ imL I))) := re_D (ws' := mX G m a1 a2 a3 a4 a5 a6 a7 a8 a9 a10 a11 a12 a13 a14 a15 a16 a17 a19 a20 a21 a22 a23 MR MC MW MD MY OQ KD TP LF HT WD CL FN MT DR DC CR KP z) hD [22, 0, 1, 2, 3, 4, 5, 6, 7, 8, 9, 10, 11, 12, 13, 14, 15, 16, 17, 18, 19, 20, 21] (by decide) rfl
    have hP := toC_P hP
    have hD := toC_D hD
    refine k_same (a := b2i false) (b := b2i false) (tgt := 885) hx hb (rfl) dL_law_193 (by decide) ?_
    exact next H locs ls ⟨t, p, im, sa, qo, wo, qi, wi, qs, wd, qp, wp, qh, wh, aw, ad, ac, ao, ax, a1, a2, a3, a4, a5, a6, a7, a8, a9, a10, a11, a12, a13, a14, a15, a16, a17, a19, a20, a21, a22, a23, LP, f, I, IM, SH, s, z, MR, MC, MW, MD, MY, OQ, KD, TP, LF, HT, WD, CL, FN, MT, DR, DC, CR, KP, hP, hD, ⟨⟨rMR, rMC, rMW, rOQ, rKD, rTP, rLF, rHT, rWD, rCL, rFN, rMT, rDR, rDC, rCR⟩, hSh, hW, hZ, (fun k hk => imR_mono (hIm k hk) pool_same (fun _ _ => rfl) (fun _ _ => rfl) (fun _ _ => rfl) (fun _ _ => rfl) (fun _ _ => rfl) (fun _ _ => rfl) (fun _ _ => rfl) (fun _ _ => rfl) (fun _ _ => rfl) (fun _ _ => rfl) (fun _ _ => rfl) (fun _ _ => rfl) (fun _ _ => rfl) (fun _ _ => rfl) (fun _ _ => rfl) (fun _ _ => rfl) (fun _ _ => rfl))⟩⟩ hS (lv_sub hl [0, 1, 2, 3] rfl)

set_option maxHeartbeats 4000000 in
set_option maxRecDepth 100000 in
theorem law_lighter (lM : Launch) {pM : Program} {eM : Env} {sM : State} {mM : MethodId} {bM : List Frame} {tM : Method} {cM : Code} {b L : Nat} {xs : Nat → Int32} {G : GG} {Q : State → Prop} (C : lcx pM sM mM cM b L xs G) (hL : L ≤ 4096) (x m i cells slots : Nat) (hi : i + 8 ≤ L) (hcl : cells + 6 ≤ 600000) (hsl : slots + 83 ≤ 7302250) (next : ∀ (H : Heap) (locs : List Loc) (ls : Array Slot), INV G (fun q => sM.heap.size ≤ q) x m H → va_S (fun q => sM.heap.size ≤ q) sM.heap H locs → lv_has ls 4 [(0, .ref b), (1, .ref x), (2, .ref m), (3, .int (iI ((i : Nat) : Int)))] → W pM lM eM room_1 sM mM #[Value.ref b] bM tM cM H locs (cells + 6) (slots + 83) Q (F0 mM 885 ls [])) (H : Heap) (locs : List Loc) (ls : Array Slot) (hI : INV G (fun q => sM.heap.size ≤ q) x m H) (hS : va_S (fun q => sM.heap.size ≤ q) sM.heap H locs) (hl : lv_has ls 4 [(0, .ref b), (1, .ref x), (2, .ref m), (3, .int (iI ((i : Nat) : Int)))]) : W pM lM eM room_1 sM mM #[Value.ref b] bM tM cM H locs cells slots Q (F0 mM 594 ls []) := by
  obtain ⟨hx, hb, hml, hown, hts, hX, hbl, hG⟩ := C
  have hA : ∀ q : Nat, sM.heap.size ≤ q → (fun q => sM.heap.size ≤ q) q := fun _ h => h
  have hbA : ¬ (fun q => sM.heap.size ≤ q) b := Nat.not_le.mpr hbl
  obtain ⟨t, p, im, sa, qo, wo, qi, wi, qs, wd, qp, wp, qh, wh, aw, ad, ac, ao, ax, a1, a2, a3, a4, a5, a6, a7, a8, a9, a10, a11, a12, a13, a14, a15, a16, a17, a19, a20, a21, a22, a23, LP, f, I, IM, SH, s, z, MR, MC, MW, MD, MY, OQ, KD, TP, LF, HT, WD, CL, FN, MT, DR, DC, CR, KP, hP, hD, hO⟩ := hI
  obtain ⟨hRn, hSh, hW, hZ, hIm⟩ := hO
  obtain ⟨rMR, rMC, rMW, rOQ, rKD, rTP, rLF, rHT, rWD, rCL, rFN, rMT, rDR, rDC, rCR⟩ := hRn
  have k1 := rMR 0
  have k2 := rMC 0
  have k3 := rMT 0
  have k4 := rCR 0
  have k5 := hSh.2.2.2.2.1
  have k6 := hSh.2.2.2.2.2
  have k7 := hW.1.2.2.2.2
  obtain ⟨v1, e1⟩ : ∃ v : Int, v = (xs (i + 1)).toInt := ⟨_, rfl⟩
  have b1 : -2147483648 ≤ v1 ∧ v1 < 2147483648 := by rw [e1]; exact iI_rng _
  obtain ⟨v2, e2⟩ : ∃ v : Int, v = (xs (i + 2)).toInt := ⟨_, rfl⟩
  have b2 : -2147483648 ≤ v2 ∧ v2 < 2147483648 := by rw [e2]; exact iI_rng _
  by_cases hv : (0 ≤ v1 ∧ v1 ≤ 15) ∧ (0 ≤ v2 ∧ v2 ≤ 15)
  · obtain ⟨j, rfl⟩ : ∃ j : Nat, v1 = (j : Int) := ⟨(v1).toNat, by omega⟩
    obtain ⟨v, rfl⟩ : ∃ v : Nat, v2 = (v : Int) := ⟨(v2).toNat, by omega⟩
    refine lv_aload_n hx hb dL_law_594 rfl (lv_at hl 1 rfl) ?_
    refine lv_aload_n hx hb dL_law_595 rfl (lv_at hl 0 rfl) ?_
    refine lv_iload_n hx hb dL_law_596 rfl (lv_at hl 3 rfl) ?_
    refine lv_iconst (v := iI (1)) hx hb dL_law_597 rfl ?_
    refine k_iaddN (a := i) (b := 1) hx hb dL_law_598 ?_
    refine k_sld hx hb hX hbl hbA hS (z := i + 1) (by omega) hL dL_law_599 ?_
    rw [← e1]
    refine lv_aload_n hx hb dL_law_600 rfl (lv_at hl 0 rfl) ?_
    refine lv_iload_n hx hb dL_law_601 rfl (lv_at hl 3 rfl) ?_
    refine lv_iconst (v := iI (2)) hx hb dL_law_602 rfl ?_
    refine k_iaddN (a := i) (b := 2) hx hb dL_law_603 ?_
    refine k_sld hx hb hX hbl hbA hS (z := i + 2) (by omega) hL dL_law_604 ?_
    rw [← e2]
    refine k_roV (rest := []) [.int (iI (((j : Nat) : Int))), .int (iI (((v : Nat) : Int)))] ⟨hx, hb, hml, hown, hts⟩ (c_X4_lighter lM G x im t (MR 0) (MC 0) (MT 0) (CR 0) (MY 0) (MD 0) aw ad ac ao ax p MW j v (by omega) (by omega) rMW) (cwV 2 hts gL_law_X4_lighter rfl rfl rfl (by decide +kernel) ⟨Nat.le_of_ble_eq_true rfl, Nat.le_of_ble_eq_true rfl⟩) hG (va_recv hG.1 hP (ci := 4) (q0 := 0) rfl rfl) (rd0 (vx := [(x, .inr (4, [.ref t, .ref p, .ref im])), (t, .inr (3, [.int (iI ((((MR 0) : Nat) : Int))), .int (iI ((((MC 0) : Nat) : Int))), .int (iI ((((MT 0) : Nat) : Int))), .int (iI ((CR 0))), .int (iI ((((MY 0) : Nat) : Int))), .int (iI ((((MD 0) : Nat) : Int))), .ref aw, .ref ad, .ref ac, .ref ao, .ref ax])), (aw, .inl (G.2 0, 4, .inl (fun iX => iI ((MW iX : Nat) : Int))))]) hP [0, 1, 2] rfl) rfl rfl hl.1 (Nat.le_of_ble_eq_true rfl) ⟨by show cells ≤ 600000; omega, by show slots ≤ 7302250; omega⟩ dL_law_605 ?_
    refine W.widen (k := cells + 6) (n := slots + 83) (by show cells + 0 ≤ cells + 6; omega) (by show slots + 0 ≤ slots + 83; omega) ?_
    refine lv_aload_n hx hb dL_law_608 rfl (lv_at hl 2 rfl) ?_
    refine lv_aload_n hx hb dL_law_609 rfl (lv_at hl 0 rfl) ?_
    refine lv_iload_n hx hb dL_law_610 rfl (lv_at hl 3 rfl) ?_
    refine lv_iconst (v := iI (1)) hx hb dL_law_611 rfl ?_
    refine k_iaddN (a := i) (b := 1) hx hb dL_law_612 ?_
    refine k_sld hx hb hX hbl hbA hS (z := i + 1) (by omega) hL dL_law_613 ?_
    rw [← e1]
    refine lv_aload_n hx hb dL_law_614 rfl (lv_at hl 0 rfl) ?_
    refine lv_iload_n hx hb dL_law_615 rfl (lv_at hl 3 rfl) ?_
    refine lv_iconst (v := iI (2)) hx hb dL_law_616 rfl ?_
    refine k_iaddN (a := i) (b := 2) hx hb dL_law_617 ?_
    refine k_sld hx hb hX hbl hbA hS (z := i + 2) (by omega) hL dL_law_618 ?_
    rw [← e2]
    have hP := toM_P hP
    have hD := toM_D hD
    refine k_rwVY (rest := [.int (iI (b2i (decide (lightP MW j v))))]) (wr := [(a19, .inl (G.2 0, 256, .inl (fun iX => iI (z.2.1 iX)))), (a20, .inl (G.2 0, 256, .inl (fun iX => iI ((z.2.2.1 iX : Nat) : Int)))), (a21, .inl (G.2 1, 256, .inl (fun iX => iI (b2i (z.2.2.2.1 iX))))), (a22, .inl (G.2 0, 256, .inl (fun iX => iI ((z.2.2.2.2 iX : Nat) : Int)))), (a1, .inl (G.2 0, 5, .inl (fun iX => iI ((MR iX : Nat) : Int)))), (a2, .inl (G.2 0, 5, .inl (fun iX => iI ((MC iX : Nat) : Int)))), (a3, .inl (G.2 0, 20, .inl (fun iX => iI ((MW iX : Nat) : Int)))), (a4, .inl (G.2 0, 5, .inl (fun iX => iI ((MD iX : Nat) : Int)))), (a5, .inl (G.2 0, 5, .inl (fun iX => iI ((MY iX : Nat) : Int)))), (a6, .inl (G.2 0, 150, .inl (fun iX => iI ((OQ iX : Nat) : Int)))), (a7, .inl (G.2 0, 150, .inl (fun iX => iI ((KD iX : Nat) : Int)))), (a8, .inl (G.2 0, 150, .inl (fun iX => iI (TP iX)))), (a9, .inl (G.2 0, 150, .inl (fun iX => iI (LF iX)))), (a10, .inl (G.2 0, 150, .inl (fun iX => iI ((HT iX : Nat) : Int)))), (a11, .inl (G.2 0, 150, .inl (fun iX => iI ((WD iX : Nat) : Int)))), (a12, .inl (G.2 0, 150, .inl (fun iX => iI ((CL iX : Nat) : Int)))), (a13, .inl (G.2 0, 150, .inl (fun iX => iI ((FN iX : Nat) : Int)))), (a14, .inl (G.2 0, 5, .inl (fun iX => iI ((MT iX : Nat) : Int)))), (a15, .inl (G.2 0, 20, .inl (fun iX => iI (DR iX)))), (a16, .inl (G.2 0, 20, .inl (fun iX => iI (DC iX)))), (a17, .inl (G.2 0, 5, .inl (fun iX => iI (CR iX)))), (a23, .inl (G.2 1, 4, .inl (fun iX => iI (b2i (KP iX)))))]) (w := [(m, .inr (5, [.int (iI (0)), .ref a1, .ref a2, .ref a3, .ref a4, .ref a5, .ref a6, .ref a7, .ref a8, .ref a9, .ref a10, .ref a11, .ref a12, .ref a13, .ref a14, .ref a15, .ref a16, .ref a17, .int (iI (b2i (z.1))), .ref a19, .ref a20, .ref a21, .ref a22, .ref a23]))]) (v := [(a3, .inl (G.2 0, 20, .inl (fun iX => iI ((MW iX : Nat) : Int))))]) [.int (iI (((j : Nat) : Int))), .int (iI (((v : Nat) : Int)))] ⟨hx, hb, hml, hown, hts⟩ (c_X5_lighter lM G H.size m a1 a2 a3 a4 a5 a6 a7 a8 a9 a10 a11 a12 a13 a14 a15 a16 a17 a19 a20 a21 a22 a23 z.1 j v MW (by omega) (by omega) rMW) (cwV 2 hts gL_law_X5_lighter rfl rfl rfl (by decide +kernel) ⟨Nat.le_of_ble_eq_true rfl, Nat.le_of_ble_eq_true rfl⟩) hG (va_recv hG.1 hP (ci := 5) (q0 := 0) rfl rfl) hP hD hS hA [0] [1, 2, 3, 4, 5, 6, 7, 8, 9, 10, 11, 12, 13, 14, 15, 16, 17, 18, 19, 20, 21, 22] rfl rfl (by decide) (rd0 (vx := [(a3, .inl (G.2 0, 20, .inl (fun iX => iI ((MW iX : Nat) : Int))))]) hP [7] rfl) (ap0 (vx := [(a3, .inl (G.2 0, 20, .inl (fun iX => iI ((MW iX : Nat) : Int))))]) hD [0] [7] rfl rfl (by decide)) rfl rfl hl.1 (Nat.le_of_ble_eq_true rfl) ⟨by show cells + 6 + 0 ≤ 600000; omega, by show slots + 83 + 0 ≤ 7302250; omega⟩ dL_law_619 (fun o9 w9 H locs h9 hP hD hS => ?_)
    obtain ⟨rfl, rfl⟩ := h9
    have hP : va_P G.1 vwCl (mX G m a1 a2 a3 a4 a5 a6 a7 a8 a9 a10 a11 a12 a13 a14 a15 a16 a17 a19 a20 a21 a22 a23 MR MC MW MD MY OQ KD TP LF HT WD CL FN MT DR DC CR KP z ++ (cX G x t p im sa qo wo qi wi qs wd qp wp qh wh aw ad ac ao ax (MR 0) (MC 0) (MT 0) (CR 0) (MY 0) (MD 0) MW OQ DC DR SH IM s ++ (va_pl LP f ++ imL I))) H := re_P (ws' := mX G m a1 a2 a3 a4 a5 a6 a7 a8 a9 a10 a11 a12 a13 a14 a15 a16 a17 a19 a20 a21 a22 a23 MR MC MW MD MY OQ KD TP LF HT WD CL FN MT DR DC CR KP z) hP [22, 0, 1, 2, 3, 4, 5, 6, 7, 8, 9, 10, 11, 12, 13, 14, 15, 16, 17, 18, 19, 20, 21] rfl
    have hD : va_D _ (mX G m a1 a2 a3 a4 a5 a6 a7 a8 a9 a10 a11 a12 a13 a14 a15 a16 a17 a19 a20 a21 a22 a23 MR MC MW MD MY OQ KD TP LF HT WD CL FN MT DR DC CR KP z ++ (cX G x t p im sa qo wo qi wi qs wd qp wp qh wh aw ad ac ao ax (MR 0) (MC 0) (MT 0) (CR 0) (MY 0) (MD 0) MW OQ DC DR SH IM s ++ (va_pl LP f ++ imL I))) := re_D (ws' := mX G m a1 a2 a3 a4 a5 a6 a7 a8 a9 a10 a11 a12 a13 a14 a15 a16 a17 a19 a20 a21 a22 a23 MR MC MW MD MY OQ KD TP LF HT WD CL FN MT DR DC CR KP z) hD [22, 0, 1, 2, 3, 4, 5, 6, 7, 8, 9, 10, 11, 12, 13, 14, 15, 16, 17, 18, 19, 20, 21] (by decide) rfl
    have hP := toC_P hP
    have hD := toC_D hD
    refine k_same (a := b2i (decide (lightP MW j v))) (b := b2i (decide (lightP MW j v))) (tgt := 885) hx hb (rfl) dL_law_622 (by decide) ?_
    exact next H locs ls ⟨t, p, im, sa, qo, wo, qi, wi, qs, wd, qp, wp, qh, wh, aw, ad, ac, ao, ax, a1, a2, a3, a4, a5, a6, a7, a8, a9, a10, a11, a12, a13, a14, a15, a16, a17, a19, a20, a21, a22, a23, LP, f, I, IM, SH, s, z, MR, MC, MW, MD, MY, OQ, KD, TP, LF, HT, WD, CL, FN, MT, DR, DC, CR, KP, hP, hD, ⟨⟨rMR, rMC, rMW, rOQ, rKD, rTP, rLF, rHT, rWD, rCL, rFN, rMT, rDR, rDC, rCR⟩, hSh, hW, hZ, (fun k hk => imR_mono (hIm k hk) pool_same (fun _ _ => rfl) (fun _ _ => rfl) (fun _ _ => rfl) (fun _ _ => rfl) (fun _ _ => rfl) (fun _ _ => rfl) (fun _ _ => rfl) (fun _ _ => rfl) (fun _ _ => rfl) (fun _ _ => rfl) (fun _ _ => rfl) (fun _ _ => rfl) (fun _ _ => rfl) (fun _ _ => rfl) (fun _ _ => rfl) (fun _ _ => rfl) (fun _ _ => rfl))⟩⟩ hS (lv_sub hl [0, 1, 2, 3] rfl)
  · refine lv_aload_n hx hb dL_law_594 rfl (lv_at hl 1 rfl) ?_
    refine lv_aload_n hx hb dL_law_595 rfl (lv_at hl 0 rfl) ?_
    refine lv_iload_n hx hb dL_law_596 rfl (lv_at hl 3 rfl) ?_
    refine lv_iconst (v := iI (1)) hx hb dL_law_597 rfl ?_
    refine k_iaddN (a := i) (b := 1) hx hb dL_law_598 ?_
    refine k_sld hx hb hX hbl hbA hS (z := i + 1) (by omega) hL dL_law_599 ?_
    rw [← e1]
    refine lv_aload_n hx hb dL_law_600 rfl (lv_at hl 0 rfl) ?_
    refine lv_iload_n hx hb dL_law_601 rfl (lv_at hl 3 rfl) ?_
    refine lv_iconst (v := iI (2)) hx hb dL_law_602 rfl ?_
    refine k_iaddN (a := i) (b := 2) hx hb dL_law_603 ?_
    refine k_sld hx hb hX hbl hbA hS (z := i + 2) (by omega) hL dL_law_604 ?_
    rw [← e2]
    refine k_roV (rest := []) [.int (iI (v1)), .int (iI (v2))] ⟨hx, hb, hml, hown, hts⟩ (c_X4_lighter_N lM G x v1 v2 hv (by omega) (by omega)) (cwV 2 hts gL_law_X4_lighter rfl rfl rfl (by decide +kernel) ⟨Nat.le_of_ble_eq_true rfl, Nat.le_of_ble_eq_true rfl⟩) hG (va_recv hG.1 hP (ci := 4) (q0 := 0) rfl rfl) (fun k q h => by simp at h) rfl rfl hl.1 (Nat.le_of_ble_eq_true rfl) ⟨by show cells ≤ 600000; omega, by show slots ≤ 7302250; omega⟩ dL_law_605 ?_
    refine W.widen (k := cells + 6) (n := slots + 83) (by show cells + 0 ≤ cells + 6; omega) (by show slots + 0 ≤ slots + 83; omega) ?_
    refine lv_aload_n hx hb dL_law_608 rfl (lv_at hl 2 rfl) ?_
    refine lv_aload_n hx hb dL_law_609 rfl (lv_at hl 0 rfl) ?_
    refine lv_iload_n hx hb dL_law_610 rfl (lv_at hl 3 rfl) ?_
    refine lv_iconst (v := iI (1)) hx hb dL_law_611 rfl ?_
    refine k_iaddN (a := i) (b := 1) hx hb dL_law_612 ?_
    refine k_sld hx hb hX hbl hbA hS (z := i + 1) (by omega) hL dL_law_613 ?_
    rw [← e1]
    refine lv_aload_n hx hb dL_law_614 rfl (lv_at hl 0 rfl) ?_
    refine lv_iload_n hx hb dL_law_615 rfl (lv_at hl 3 rfl) ?_
    refine lv_iconst (v := iI (2)) hx hb dL_law_616 rfl ?_
    refine k_iaddN (a := i) (b := 2) hx hb dL_law_617 ?_
    refine k_sld hx hb hX hbl hbA hS (z := i + 2) (by omega) hL dL_law_618 ?_
    rw [← e2]
    have hP := toM_P hP
    have hD := toM_D hD
    refine k_rwVY (rest := [.int (iI (b2i false))]) (wr := [(a19, .inl (G.2 0, 256, .inl (fun iX => iI (z.2.1 iX)))), (a20, .inl (G.2 0, 256, .inl (fun iX => iI ((z.2.2.1 iX : Nat) : Int)))), (a21, .inl (G.2 1, 256, .inl (fun iX => iI (b2i (z.2.2.2.1 iX))))), (a22, .inl (G.2 0, 256, .inl (fun iX => iI ((z.2.2.2.2 iX : Nat) : Int)))), (a1, .inl (G.2 0, 5, .inl (fun iX => iI ((MR iX : Nat) : Int)))), (a2, .inl (G.2 0, 5, .inl (fun iX => iI ((MC iX : Nat) : Int)))), (a3, .inl (G.2 0, 20, .inl (fun iX => iI ((MW iX : Nat) : Int)))), (a4, .inl (G.2 0, 5, .inl (fun iX => iI ((MD iX : Nat) : Int)))), (a5, .inl (G.2 0, 5, .inl (fun iX => iI ((MY iX : Nat) : Int)))), (a6, .inl (G.2 0, 150, .inl (fun iX => iI ((OQ iX : Nat) : Int)))), (a7, .inl (G.2 0, 150, .inl (fun iX => iI ((KD iX : Nat) : Int)))), (a8, .inl (G.2 0, 150, .inl (fun iX => iI (TP iX)))), (a9, .inl (G.2 0, 150, .inl (fun iX => iI (LF iX)))), (a10, .inl (G.2 0, 150, .inl (fun iX => iI ((HT iX : Nat) : Int)))), (a11, .inl (G.2 0, 150, .inl (fun iX => iI ((WD iX : Nat) : Int)))), (a12, .inl (G.2 0, 150, .inl (fun iX => iI ((CL iX : Nat) : Int)))), (a13, .inl (G.2 0, 150, .inl (fun iX => iI ((FN iX : Nat) : Int)))), (a14, .inl (G.2 0, 5, .inl (fun iX => iI ((MT iX : Nat) : Int)))), (a15, .inl (G.2 0, 20, .inl (fun iX => iI (DR iX)))), (a16, .inl (G.2 0, 20, .inl (fun iX => iI (DC iX)))), (a17, .inl (G.2 0, 5, .inl (fun iX => iI (CR iX)))), (a23, .inl (G.2 1, 4, .inl (fun iX => iI (b2i (KP iX)))))]) (w := [(m, .inr (5, [.int (iI (0)), .ref a1, .ref a2, .ref a3, .ref a4, .ref a5, .ref a6, .ref a7, .ref a8, .ref a9, .ref a10, .ref a11, .ref a12, .ref a13, .ref a14, .ref a15, .ref a16, .ref a17, .int (iI (b2i (z.1))), .ref a19, .ref a20, .ref a21, .ref a22, .ref a23]))]) (v := []) [.int (iI (v1)), .int (iI (v2))] ⟨hx, hb, hml, hown, hts⟩ (c_X5_lighter_N lM G H.size m a1 a2 a3 a4 a5 a6 a7 a8 a9 a10 a11 a12 a13 a14 a15 a16 a17 a19 a20 a21 a22 a23 z.1 v1 v2 hv (by omega) (by omega)) (cwV 2 hts gL_law_X5_lighter rfl rfl rfl (by decide +kernel) ⟨Nat.le_of_ble_eq_true rfl, Nat.le_of_ble_eq_true rfl⟩) hG (va_recv hG.1 hP (ci := 5) (q0 := 0) rfl rfl) hP hD hS hA [0] [1, 2, 3, 4, 5, 6, 7, 8, 9, 10, 11, 12, 13, 14, 15, 16, 17, 18, 19, 20, 21, 22] rfl rfl (by decide) (fun k q h => by simp at h) ap_nil rfl rfl hl.1 (Nat.le_of_ble_eq_true rfl) ⟨by show cells + 6 + 0 ≤ 600000; omega, by show slots + 83 + 0 ≤ 7302250; omega⟩ dL_law_619 (fun o9 w9 H locs h9 hP hD hS => ?_)
    obtain ⟨rfl, rfl⟩ := h9
    have hP : va_P G.1 vwCl (mX G m a1 a2 a3 a4 a5 a6 a7 a8 a9 a10 a11 a12 a13 a14 a15 a16 a17 a19 a20 a21 a22 a23 MR MC MW MD MY OQ KD TP LF HT WD CL FN MT DR DC CR KP z ++ (cX G x t p im sa qo wo qi wi qs wd qp wp qh wh aw ad ac ao ax (MR 0) (MC 0) (MT 0) (CR 0) (MY 0) (MD 0) MW OQ DC DR SH IM s ++ (va_pl LP f ++ imL I))) H := re_P (ws' := mX G m a1 a2 a3 a4 a5 a6 a7 a8 a9 a10 a11 a12 a13 a14 a15 a16 a17 a19 a20 a21 a22 a23 MR MC MW MD MY OQ KD TP LF HT WD CL FN MT DR DC CR KP z) hP [22, 0, 1, 2, 3, 4, 5, 6, 7, 8, 9, 10, 11, 12, 13, 14, 15, 16, 17, 18, 19, 20, 21] rfl
    have hD : va_D _ (mX G m a1 a2 a3 a4 a5 a6 a7 a8 a9 a10 a11 a12 a13 a14 a15 a16 a17 a19 a20 a21 a22 a23 MR MC MW MD MY OQ KD TP LF HT WD CL FN MT DR DC CR KP z ++ (cX G x t p im sa qo wo qi wi qs wd qp wp qh wh aw ad ac ao ax (MR 0) (MC 0) (MT 0) (CR 0) (MY 0) (MD 0) MW OQ DC DR SH IM s ++ (va_pl LP f ++ imL I))) := re_D (ws' := mX G m a1 a2 a3 a4 a5 a6 a7 a8 a9 a10 a11 a12 a13 a14 a15 a16 a17 a19 a20 a21 a22 a23 MR MC MW MD MY OQ KD TP LF HT WD CL FN MT DR DC CR KP z) hD [22, 0, 1, 2, 3, 4, 5, 6, 7, 8, 9, 10, 11, 12, 13, 14, 15, 16, 17, 18, 19, 20, 21] (by decide) rfl
    have hP := toC_P hP
    have hD := toC_D hD
    refine k_same (a := b2i false) (b := b2i false) (tgt := 885) hx hb (rfl) dL_law_622 (by decide) ?_
    exact next H locs ls ⟨t, p, im, sa, qo, wo, qi, wi, qs, wd, qp, wp, qh, wh, aw, ad, ac, ao, ax, a1, a2, a3, a4, a5, a6, a7, a8, a9, a10, a11, a12, a13, a14, a15, a16, a17, a19, a20, a21, a22, a23, LP, f, I, IM, SH, s, z, MR, MC, MW, MD, MY, OQ, KD, TP, LF, HT, WD, CL, FN, MT, DR, DC, CR, KP, hP, hD, ⟨⟨rMR, rMC, rMW, rOQ, rKD, rTP, rLF, rHT, rWD, rCL, rFN, rMT, rDR, rDC, rCR⟩, hSh, hW, hZ, (fun k hk => imR_mono (hIm k hk) pool_same (fun _ _ => rfl) (fun _ _ => rfl) (fun _ _ => rfl) (fun _ _ => rfl) (fun _ _ => rfl) (fun _ _ => rfl) (fun _ _ => rfl) (fun _ _ => rfl) (fun _ _ => rfl) (fun _ _ => rfl) (fun _ _ => rfl) (fun _ _ => rfl) (fun _ _ => rfl) (fun _ _ => rfl) (fun _ _ => rfl) (fun _ _ => rfl) (fun _ _ => rfl))⟩⟩ hS (lv_sub hl [0, 1, 2, 3] rfl)

set_option maxHeartbeats 4000000 in
set_option maxRecDepth 100000 in
theorem law_off (lM : Launch) {pM : Program} {eM : Env} {sM : State} {mM : MethodId} {bM : List Frame} {tM : Method} {cM : Code} {b L : Nat} {xs : Nat → Int32} {G : GG} {Q : State → Prop} (C : lcx pM sM mM cM b L xs G) (hL : L ≤ 4096) (x m i cells slots : Nat) (hi : i + 8 ≤ L) (hcl : cells + 6 ≤ 600000) (hsl : slots + 83 ≤ 7302250) (next : ∀ (H : Heap) (locs : List Loc) (ls : Array Slot), INV G (fun q => sM.heap.size ≤ q) x m H → va_S (fun q => sM.heap.size ≤ q) sM.heap H locs → lv_has ls 4 [(0, .ref b), (1, .ref x), (2, .ref m), (3, .int (iI ((i : Nat) : Int)))] → W pM lM eM room_1 sM mM #[Value.ref b] bM tM cM H locs (cells + 6) (slots + 83) Q (F0 mM 885 ls [])) (H : Heap) (locs : List Loc) (ls : Array Slot) (hI : INV G (fun q => sM.heap.size ≤ q) x m H) (hS : va_S (fun q => sM.heap.size ≤ q) sM.heap H locs) (hl : lv_has ls 4 [(0, .ref b), (1, .ref x), (2, .ref m), (3, .int (iI ((i : Nat) : Int)))]) : W pM lM eM room_1 sM mM #[Value.ref b] bM tM cM H locs cells slots Q (F0 mM 650 ls []) := by
  obtain ⟨hx, hb, hml, hown, hts, hX, hbl, hG⟩ := C
  have hA : ∀ q : Nat, sM.heap.size ≤ q → (fun q => sM.heap.size ≤ q) q := fun _ h => h
  have hbA : ¬ (fun q => sM.heap.size ≤ q) b := Nat.not_le.mpr hbl
  obtain ⟨t, p, im, sa, qo, wo, qi, wi, qs, wd, qp, wp, qh, wh, aw, ad, ac, ao, ax, a1, a2, a3, a4, a5, a6, a7, a8, a9, a10, a11, a12, a13, a14, a15, a16, a17, a19, a20, a21, a22, a23, LP, f, I, IM, SH, s, z, MR, MC, MW, MD, MY, OQ, KD, TP, LF, HT, WD, CL, FN, MT, DR, DC, CR, KP, hP, hD, hO⟩ := hI
  obtain ⟨hRn, hSh, hW, hZ, hIm⟩ := hO
  obtain ⟨rMR, rMC, rMW, rOQ, rKD, rTP, rLF, rHT, rWD, rCL, rFN, rMT, rDR, rDC, rCR⟩ := hRn
  have k1 := rMR 0
  have k2 := rMC 0
  have k3 := rMT 0
  have k4 := rCR 0
  have k5 := hSh.2.2.2.2.1
  have k6 := hSh.2.2.2.2.2
  have k7 := hW.1.2.2.2.2
  obtain ⟨v1, e1⟩ : ∃ v : Int, v = (xs (i + 1)).toInt := ⟨_, rfl⟩
  have b1 : -2147483648 ≤ v1 ∧ v1 < 2147483648 := by rw [e1]; exact iI_rng _
  obtain ⟨v2, e2⟩ : ∃ v : Int, v = (xs (i + 2)).toInt := ⟨_, rfl⟩
  have b2 : -2147483648 ≤ v2 ∧ v2 < 2147483648 := by rw [e2]; exact iI_rng _
  obtain ⟨v3, e3⟩ : ∃ v : Int, v = (xs (i + 3)).toInt := ⟨_, rfl⟩
  have b3 : -2147483648 ≤ v3 ∧ v3 < 2147483648 := by rw [e3]; exact iI_rng _
  by_cases hv : (0 ≤ v1 ∧ v1 ≤ 3) ∧ ((-6 ≤ v2 ∧ v2 ≤ 6) ∧ (-6 ≤ v3 ∧ v3 ≤ 6))
  · obtain ⟨j, rfl⟩ : ∃ j : Nat, v1 = (j : Int) := ⟨(v1).toNat, by omega⟩
    refine lv_aload_n hx hb dL_law_650 rfl (lv_at hl 1 rfl) ?_
    refine lv_aload_n hx hb dL_law_651 rfl (lv_at hl 0 rfl) ?_
    refine lv_iload_n hx hb dL_law_652 rfl (lv_at hl 3 rfl) ?_
    refine lv_iconst (v := iI (1)) hx hb dL_law_653 rfl ?_
    refine k_iaddN (a := i) (b := 1) hx hb dL_law_654 ?_
    refine k_sld hx hb hX hbl hbA hS (z := i + 1) (by omega) hL dL_law_655 ?_
    rw [← e1]
    refine lv_aload_n hx hb dL_law_656 rfl (lv_at hl 0 rfl) ?_
    refine lv_iload_n hx hb dL_law_657 rfl (lv_at hl 3 rfl) ?_
    refine lv_iconst (v := iI (2)) hx hb dL_law_658 rfl ?_
    refine k_iaddN (a := i) (b := 2) hx hb dL_law_659 ?_
    refine k_sld hx hb hX hbl hbA hS (z := i + 2) (by omega) hL dL_law_660 ?_
    rw [← e2]
    refine lv_aload_n hx hb dL_law_661 rfl (lv_at hl 0 rfl) ?_
    refine lv_iload_n hx hb dL_law_662 rfl (lv_at hl 3 rfl) ?_
    refine lv_iconst (v := iI (3)) hx hb dL_law_663 rfl ?_
    refine k_iaddN (a := i) (b := 3) hx hb dL_law_664 ?_
    refine k_sld hx hb hX hbl hbA hS (z := i + 3) (by omega) hL dL_law_665 ?_
    rw [← e3]
    refine k_rwVY (rest := []) (wr := [(x, .inr (4, [.ref t, .ref p, .ref im])), (t, .inr (3, [.int (iI ((((MR 0) : Nat) : Int))), .int (iI ((((MC 0) : Nat) : Int))), .int (iI ((((MT 0) : Nat) : Int))), .int (iI ((CR 0))), .int (iI ((((MY 0) : Nat) : Int))), .int (iI ((((MD 0) : Nat) : Int))), .ref aw, .ref ad, .ref ac, .ref ao, .ref ax])), (aw, .inl (G.2 0, 4, .inl (fun iX => iI ((MW iX : Nat) : Int)))), (ao, .inl (G.2 0, 30, .inl (fun iX => iI ((OQ iX : Nat) : Int)))), (ax, .inl (G.2 2, 30, .inr (.inr (.inr (.inr SH))))), (sa, .inl (G.2 0, 256, .inl (fun iX => iI (s.1.1 iX)))), (wi, .inl (G.2 0, 4 * 16, .inl (fun iX => iI ((s.1.2.1 iX : Nat) : Int)))), (wo, .inl (G.2 0, 16 * 16, .inl (fun iX => iI ((s.1.2.2.1 iX : Nat) : Int)))), (wd, .inl (G.2 0, 1 * 16, .inl (fun iX => iI ((s.1.2.2.2 iX : Nat) : Int)))), (wp, .inl (G.2 0, 4 * 16, .inl (fun iX => iI ((s.2.1 iX : Nat) : Int)))), (wh, .inl (G.2 0, 4 * 16, .inl (fun iX => iI ((s.2.2.1 iX : Nat) : Int)))), (qo, .inr (0, [.int (iI (16)), .ref wo])), (qi, .inr (0, [.int (iI (4)), .ref wi])), (qs, .inr (0, [.int (iI (1)), .ref wd])), (qp, .inr (0, [.int (iI (4)), .ref wp])), (qh, .inr (0, [.int (iI (4)), .ref wh])), (im, .inl (G.2 3, 4, .inr (.inr (.inr (.inr IM)))))]) (w := [(ad, .inl (G.2 0, 4, .inl (fun iX => iI (DR iX)))), (ac, .inl (G.2 0, 4, .inl (fun iX => iI (DC iX)))), (p, .inr (1, [.ref sa, .ref qo, .ref qi, .ref qs, .ref qp, .ref qh, .int (iI ((((s.2.2.2) : Nat) : Int)))]))]) (v := [(x, .inr (4, [.ref t, .ref p, .ref im])), (t, .inr (3, [.int (iI ((((MR 0) : Nat) : Int))), .int (iI ((((MC 0) : Nat) : Int))), .int (iI ((((MT 0) : Nat) : Int))), .int (iI ((CR 0))), .int (iI ((((MY 0) : Nat) : Int))), .int (iI ((((MD 0) : Nat) : Int))), .ref aw, .ref ad, .ref ac, .ref ao, .ref ax]))]) [.int (iI (((j : Nat) : Int))), .int (iI (v2)), .int (iI (v3))] ⟨hx, hb, hml, hown, hts⟩ (c_X4_off lM G H.size x im t (MR 0) (MC 0) (MT 0) (CR 0) (MY 0) (MD 0) aw ad ac ao ax p sa qo qi qs qp qh s.2.2.2 DC DR j v2 v3 (by omega) (by omega) (by omega)) (cwV 3 hts gL_law_X4_off rfl rfl rfl (by decide +kernel) ⟨Nat.le_of_ble_eq_true rfl, Nat.le_of_ble_eq_true rfl⟩) hG (va_recv hG.1 hP (ci := 4) (q0 := 0) rfl rfl) hP hD hS hA [3, 4, 7] [0, 1, 2, 5, 6, 8, 9, 10, 11, 12, 13, 14, 15, 16, 17, 18, 19] rfl rfl (by decide) (rd0 (vx := [(x, .inr (4, [.ref t, .ref p, .ref im])), (t, .inr (3, [.int (iI ((((MR 0) : Nat) : Int))), .int (iI ((((MC 0) : Nat) : Int))), .int (iI ((((MT 0) : Nat) : Int))), .int (iI ((CR 0))), .int (iI ((((MY 0) : Nat) : Int))), .int (iI ((((MD 0) : Nat) : Int))), .ref aw, .ref ad, .ref ac, .ref ao, .ref ax]))]) hP [0, 1] rfl) (ap0 (vx := [(x, .inr (4, [.ref t, .ref p, .ref im])), (t, .inr (3, [.int (iI ((((MR 0) : Nat) : Int))), .int (iI ((((MC 0) : Nat) : Int))), .int (iI ((((MT 0) : Nat) : Int))), .int (iI ((CR 0))), .int (iI ((((MY 0) : Nat) : Int))), .int (iI ((((MD 0) : Nat) : Int))), .ref aw, .ref ad, .ref ac, .ref ao, .ref ax]))]) hD [3, 4, 7] [0, 1] rfl rfl (by decide)) rfl rfl hl.1 (Nat.le_of_ble_eq_true rfl) ⟨by show cells + 0 ≤ 600000; omega, by show slots + 0 ≤ 7302250; omega⟩ dL_law_666 (fun o9 w9 H locs h9 hP hD hS => ?_)
    obtain ⟨rfl, rfl⟩ := h9
    have hP : va_P G.1 vwCl (cX G x t p im sa qo wo qi wi qs wd qp wp qh wh aw ad ac ao ax (MR 0) (MC 0) (MT 0) (CR 0) (MY 0) (MD 0) MW OQ (va_up DC j v3) (va_up DR j v2) SH IM (kp s 2) ++ (va_pl LP f ++ (imL I ++ mX G m a1 a2 a3 a4 a5 a6 a7 a8 a9 a10 a11 a12 a13 a14 a15 a16 a17 a19 a20 a21 a22 a23 MR MC MW MD MY OQ KD TP LF HT WD CL FN MT DR DC CR KP z))) H := re_P (ws' := cX G x t p im sa qo wo qi wi qs wd qp wp qh wh aw ad ac ao ax (MR 0) (MC 0) (MT 0) (CR 0) (MY 0) (MD 0) MW OQ (va_up DC j v3) (va_up DR j v2) SH IM (kp s 2)) hP [0, 1, 2, 17, 18, 3, 4, 19, 5, 6, 7, 8, 9, 10, 11, 12, 13, 14, 15, 16] rfl
    have hD : va_D _ (cX G x t p im sa qo wo qi wi qs wd qp wp qh wh aw ad ac ao ax (MR 0) (MC 0) (MT 0) (CR 0) (MY 0) (MD 0) MW OQ (va_up DC j v3) (va_up DR j v2) SH IM (kp s 2) ++ (va_pl LP f ++ (imL I ++ mX G m a1 a2 a3 a4 a5 a6 a7 a8 a9 a10 a11 a12 a13 a14 a15 a16 a17 a19 a20 a21 a22 a23 MR MC MW MD MY OQ KD TP LF HT WD CL FN MT DR DC CR KP z))) := re_D (ws' := cX G x t p im sa qo wo qi wi qs wd qp wp qh wh aw ad ac ao ax (MR 0) (MC 0) (MT 0) (CR 0) (MY 0) (MD 0) MW OQ (va_up DC j v3) (va_up DR j v2) SH IM (kp s 2)) hD [0, 1, 2, 17, 18, 3, 4, 19, 5, 6, 7, 8, 9, 10, 11, 12, 13, 14, 15, 16] (by decide) rfl
    refine W.widen (k := cells + 6) (n := slots + 83) (by show cells + 0 ≤ cells + 6; omega) (by show slots + 0 ≤ slots + 83; omega) ?_
    refine lv_aload_n hx hb dL_law_669 rfl (lv_at hl 2 rfl) ?_
    refine lv_aload_n hx hb dL_law_670 rfl (lv_at hl 0 rfl) ?_
    refine lv_iload_n hx hb dL_law_671 rfl (lv_at hl 3 rfl) ?_
    refine lv_iconst (v := iI (1)) hx hb dL_law_672 rfl ?_
    refine k_iaddN (a := i) (b := 1) hx hb dL_law_673 ?_
    refine k_sld hx hb hX hbl hbA hS (z := i + 1) (by omega) hL dL_law_674 ?_
    rw [← e1]
    refine lv_aload_n hx hb dL_law_675 rfl (lv_at hl 0 rfl) ?_
    refine lv_iload_n hx hb dL_law_676 rfl (lv_at hl 3 rfl) ?_
    refine lv_iconst (v := iI (2)) hx hb dL_law_677 rfl ?_
    refine k_iaddN (a := i) (b := 2) hx hb dL_law_678 ?_
    refine k_sld hx hb hX hbl hbA hS (z := i + 2) (by omega) hL dL_law_679 ?_
    rw [← e2]
    refine lv_aload_n hx hb dL_law_680 rfl (lv_at hl 0 rfl) ?_
    refine lv_iload_n hx hb dL_law_681 rfl (lv_at hl 3 rfl) ?_
    refine lv_iconst (v := iI (3)) hx hb dL_law_682 rfl ?_
    refine k_iaddN (a := i) (b := 3) hx hb dL_law_683 ?_
    refine k_sld hx hb hX hbl hbA hS (z := i + 3) (by omega) hL dL_law_684 ?_
    rw [← e3]
    have hP := toM_P hP
    have hD := toM_D hD
    refine k_rwVY (rest := [.int (iI (b2i true))]) (wr := [(a19, .inl (G.2 0, 256, .inl (fun iX => iI (z.2.1 iX)))), (a20, .inl (G.2 0, 256, .inl (fun iX => iI ((z.2.2.1 iX : Nat) : Int)))), (a21, .inl (G.2 1, 256, .inl (fun iX => iI (b2i (z.2.2.2.1 iX))))), (a22, .inl (G.2 0, 256, .inl (fun iX => iI ((z.2.2.2.2 iX : Nat) : Int)))), (a1, .inl (G.2 0, 5, .inl (fun iX => iI ((MR iX : Nat) : Int)))), (a2, .inl (G.2 0, 5, .inl (fun iX => iI ((MC iX : Nat) : Int)))), (a3, .inl (G.2 0, 20, .inl (fun iX => iI ((MW iX : Nat) : Int)))), (a4, .inl (G.2 0, 5, .inl (fun iX => iI ((MD iX : Nat) : Int)))), (a5, .inl (G.2 0, 5, .inl (fun iX => iI ((MY iX : Nat) : Int)))), (a6, .inl (G.2 0, 150, .inl (fun iX => iI ((OQ iX : Nat) : Int)))), (a7, .inl (G.2 0, 150, .inl (fun iX => iI ((KD iX : Nat) : Int)))), (a8, .inl (G.2 0, 150, .inl (fun iX => iI (TP iX)))), (a9, .inl (G.2 0, 150, .inl (fun iX => iI (LF iX)))), (a10, .inl (G.2 0, 150, .inl (fun iX => iI ((HT iX : Nat) : Int)))), (a11, .inl (G.2 0, 150, .inl (fun iX => iI ((WD iX : Nat) : Int)))), (a12, .inl (G.2 0, 150, .inl (fun iX => iI ((CL iX : Nat) : Int)))), (a13, .inl (G.2 0, 150, .inl (fun iX => iI ((FN iX : Nat) : Int)))), (a14, .inl (G.2 0, 5, .inl (fun iX => iI ((MT iX : Nat) : Int)))), (a17, .inl (G.2 0, 5, .inl (fun iX => iI (CR iX)))), (a23, .inl (G.2 1, 4, .inl (fun iX => iI (b2i (KP iX)))))]) (w := [(m, .inr (5, [.int (iI (0)), .ref a1, .ref a2, .ref a3, .ref a4, .ref a5, .ref a6, .ref a7, .ref a8, .ref a9, .ref a10, .ref a11, .ref a12, .ref a13, .ref a14, .ref a15, .ref a16, .ref a17, .int (iI (b2i (z.1))), .ref a19, .ref a20, .ref a21, .ref a22, .ref a23])), (a15, .inl (G.2 0, 20, .inl (fun iX => iI (DR iX)))), (a16, .inl (G.2 0, 20, .inl (fun iX => iI (DC iX))))]) (v := []) [.int (iI (((j : Nat) : Int))), .int (iI (v2)), .int (iI (v3))] ⟨hx, hb, hml, hown, hts⟩ (c_X5_off lM G H.size m a1 a2 a3 a4 a5 a6 a7 a8 a9 a10 a11 a12 a13 a14 a15 a16 a17 a19 a20 a21 a22 a23 z.1 j v2 v3 DR DC (by omega) (by omega)) (cwV 3 hts gL_law_X5_off rfl rfl rfl (by decide +kernel) ⟨Nat.le_of_ble_eq_true rfl, Nat.le_of_ble_eq_true rfl⟩) hG (va_recv hG.1 hP (ci := 5) (q0 := 0) rfl rfl) hP hD hS hA [0, 19, 20] [1, 2, 3, 4, 5, 6, 7, 8, 9, 10, 11, 12, 13, 14, 15, 16, 17, 18, 21, 22] rfl rfl (by decide) (fun k q h => by simp at h) ap_nil rfl rfl hl.1 (Nat.le_of_ble_eq_true rfl) ⟨by show cells + 6 + 0 ≤ 600000; omega, by show slots + 83 + 0 ≤ 7302250; omega⟩ dL_law_685 (fun o9 w9 H locs h9 hP hD hS => ?_)
    obtain ⟨rfl, rfl⟩ := h9
    have hP : va_P G.1 vwCl (mX G m a1 a2 a3 a4 a5 a6 a7 a8 a9 a10 a11 a12 a13 a14 a15 a16 a17 a19 a20 a21 a22 a23 MR MC MW MD MY OQ KD TP LF HT WD CL FN MT (va_up DR j v2) (va_up DC j v3) CR KP z ++ (cX G x t p im sa qo wo qi wi qs wd qp wp qh wh aw ad ac ao ax (MR 0) (MC 0) (MT 0) (CR 0) (MY 0) (MD 0) MW OQ (va_up DC j v3) (va_up DR j v2) SH IM (kp s 2) ++ (va_pl LP f ++ imL I))) H := re_P (ws' := mX G m a1 a2 a3 a4 a5 a6 a7 a8 a9 a10 a11 a12 a13 a14 a15 a16 a17 a19 a20 a21 a22 a23 MR MC MW MD MY OQ KD TP LF HT WD CL FN MT (va_up DR j v2) (va_up DC j v3) CR KP z) hP [20, 0, 1, 2, 3, 4, 5, 6, 7, 8, 9, 10, 11, 12, 13, 14, 15, 16, 17, 21, 22, 18, 19] rfl
    have hD : va_D _ (mX G m a1 a2 a3 a4 a5 a6 a7 a8 a9 a10 a11 a12 a13 a14 a15 a16 a17 a19 a20 a21 a22 a23 MR MC MW MD MY OQ KD TP LF HT WD CL FN MT (va_up DR j v2) (va_up DC j v3) CR KP z ++ (cX G x t p im sa qo wo qi wi qs wd qp wp qh wh aw ad ac ao ax (MR 0) (MC 0) (MT 0) (CR 0) (MY 0) (MD 0) MW OQ (va_up DC j v3) (va_up DR j v2) SH IM (kp s 2) ++ (va_pl LP f ++ imL I))) := re_D (ws' := mX G m a1 a2 a3 a4 a5 a6 a7 a8 a9 a10 a11 a12 a13 a14 a15 a16 a17 a19 a20 a21 a22 a23 MR MC MW MD MY OQ KD TP LF HT WD CL FN MT (va_up DR j v2) (va_up DC j v3) CR KP z) hD [20, 0, 1, 2, 3, 4, 5, 6, 7, 8, 9, 10, 11, 12, 13, 14, 15, 16, 17, 21, 22, 18, 19] (by decide) rfl
    have hP := toC_P hP
    have hD := toC_D hD
    refine k_same (a := b2i true) (b := b2i true) (tgt := 885) hx hb (rfl) dL_law_688 (by decide) ?_
    exact next H locs ls ⟨t, p, im, sa, qo, wo, qi, wi, qs, wd, qp, wp, qh, wh, aw, ad, ac, ao, ax, a1, a2, a3, a4, a5, a6, a7, a8, a9, a10, a11, a12, a13, a14, a15, a16, a17, a19, a20, a21, a22, a23, LP, f, I, IM, SH, kp s 2, z, MR, MC, MW, MD, MY, OQ, KD, TP, LF, HT, WD, CL, FN, MT, va_up DR j v2, va_up DC j v3, CR, KP, hP, hD, ⟨⟨rMR, rMC, rMW, rOQ, rKD, rTP, rLF, rHT, rWD, rCL, rFN, rMT, (up_all (P := fun y => -6 ≤ y ∧ y ≤ 6) hv.2.1 rDR), (up_all (P := fun y => -6 ≤ y ∧ y ≤ 6) hv.2.2 rDC), rCR⟩, hSh, wV_k2 hW, hZ, (fun k hk => imR_mono (hIm k hk) pool_same (fun _ _ => rfl) (fun _ _ => rfl) (fun _ _ => rfl) (fun _ _ => rfl) (fun _ _ => rfl) (fun _ _ => rfl) (fun _ _ => rfl) (fun _ _ => rfl) (fun _ _ => rfl) (fun _ _ => rfl) (fun _ _ => rfl) (fun _ _ => rfl) (fun _ _ => rfl) (fun _ _ => rfl) (sl_up (b := 4) (by omega)) (sl_up (b := 4) (by omega)) (fun _ _ => rfl))⟩⟩ hS (lv_sub hl [0, 1, 2, 3] rfl)
  · refine lv_aload_n hx hb dL_law_650 rfl (lv_at hl 1 rfl) ?_
    refine lv_aload_n hx hb dL_law_651 rfl (lv_at hl 0 rfl) ?_
    refine lv_iload_n hx hb dL_law_652 rfl (lv_at hl 3 rfl) ?_
    refine lv_iconst (v := iI (1)) hx hb dL_law_653 rfl ?_
    refine k_iaddN (a := i) (b := 1) hx hb dL_law_654 ?_
    refine k_sld hx hb hX hbl hbA hS (z := i + 1) (by omega) hL dL_law_655 ?_
    rw [← e1]
    refine lv_aload_n hx hb dL_law_656 rfl (lv_at hl 0 rfl) ?_
    refine lv_iload_n hx hb dL_law_657 rfl (lv_at hl 3 rfl) ?_
    refine lv_iconst (v := iI (2)) hx hb dL_law_658 rfl ?_
    refine k_iaddN (a := i) (b := 2) hx hb dL_law_659 ?_
    refine k_sld hx hb hX hbl hbA hS (z := i + 2) (by omega) hL dL_law_660 ?_
    rw [← e2]
    refine lv_aload_n hx hb dL_law_661 rfl (lv_at hl 0 rfl) ?_
    refine lv_iload_n hx hb dL_law_662 rfl (lv_at hl 3 rfl) ?_
    refine lv_iconst (v := iI (3)) hx hb dL_law_663 rfl ?_
    refine k_iaddN (a := i) (b := 3) hx hb dL_law_664 ?_
    refine k_sld hx hb hX hbl hbA hS (z := i + 3) (by omega) hL dL_law_665 ?_
    rw [← e3]
    refine k_roV (rest := []) [.int (iI (v1)), .int (iI (v2)), .int (iI (v3))] ⟨hx, hb, hml, hown, hts⟩ (c_X4_off_N lM G x v1 v2 v3 hv (by omega) (by omega) (by omega)) (cwV 3 hts gL_law_X4_off rfl rfl rfl (by decide +kernel) ⟨Nat.le_of_ble_eq_true rfl, Nat.le_of_ble_eq_true rfl⟩) hG (va_recv hG.1 hP (ci := 4) (q0 := 0) rfl rfl) (fun k q h => by simp at h) rfl rfl hl.1 (Nat.le_of_ble_eq_true rfl) ⟨by show cells ≤ 600000; omega, by show slots ≤ 7302250; omega⟩ dL_law_666 ?_
    refine W.widen (k := cells + 6) (n := slots + 83) (by show cells + 0 ≤ cells + 6; omega) (by show slots + 0 ≤ slots + 83; omega) ?_
    refine lv_aload_n hx hb dL_law_669 rfl (lv_at hl 2 rfl) ?_
    refine lv_aload_n hx hb dL_law_670 rfl (lv_at hl 0 rfl) ?_
    refine lv_iload_n hx hb dL_law_671 rfl (lv_at hl 3 rfl) ?_
    refine lv_iconst (v := iI (1)) hx hb dL_law_672 rfl ?_
    refine k_iaddN (a := i) (b := 1) hx hb dL_law_673 ?_
    refine k_sld hx hb hX hbl hbA hS (z := i + 1) (by omega) hL dL_law_674 ?_
    rw [← e1]
    refine lv_aload_n hx hb dL_law_675 rfl (lv_at hl 0 rfl) ?_
    refine lv_iload_n hx hb dL_law_676 rfl (lv_at hl 3 rfl) ?_
    refine lv_iconst (v := iI (2)) hx hb dL_law_677 rfl ?_
    refine k_iaddN (a := i) (b := 2) hx hb dL_law_678 ?_
    refine k_sld hx hb hX hbl hbA hS (z := i + 2) (by omega) hL dL_law_679 ?_
    rw [← e2]
    refine lv_aload_n hx hb dL_law_680 rfl (lv_at hl 0 rfl) ?_
    refine lv_iload_n hx hb dL_law_681 rfl (lv_at hl 3 rfl) ?_
    refine lv_iconst (v := iI (3)) hx hb dL_law_682 rfl ?_
    refine k_iaddN (a := i) (b := 3) hx hb dL_law_683 ?_
    refine k_sld hx hb hX hbl hbA hS (z := i + 3) (by omega) hL dL_law_684 ?_
    rw [← e3]
    have hP := toM_P hP
    have hD := toM_D hD
    refine k_rwVY (rest := [.int (iI (b2i false))]) (wr := [(a19, .inl (G.2 0, 256, .inl (fun iX => iI (z.2.1 iX)))), (a20, .inl (G.2 0, 256, .inl (fun iX => iI ((z.2.2.1 iX : Nat) : Int)))), (a21, .inl (G.2 1, 256, .inl (fun iX => iI (b2i (z.2.2.2.1 iX))))), (a22, .inl (G.2 0, 256, .inl (fun iX => iI ((z.2.2.2.2 iX : Nat) : Int)))), (a1, .inl (G.2 0, 5, .inl (fun iX => iI ((MR iX : Nat) : Int)))), (a2, .inl (G.2 0, 5, .inl (fun iX => iI ((MC iX : Nat) : Int)))), (a3, .inl (G.2 0, 20, .inl (fun iX => iI ((MW iX : Nat) : Int)))), (a4, .inl (G.2 0, 5, .inl (fun iX => iI ((MD iX : Nat) : Int)))), (a5, .inl (G.2 0, 5, .inl (fun iX => iI ((MY iX : Nat) : Int)))), (a6, .inl (G.2 0, 150, .inl (fun iX => iI ((OQ iX : Nat) : Int)))), (a7, .inl (G.2 0, 150, .inl (fun iX => iI ((KD iX : Nat) : Int)))), (a8, .inl (G.2 0, 150, .inl (fun iX => iI (TP iX)))), (a9, .inl (G.2 0, 150, .inl (fun iX => iI (LF iX)))), (a10, .inl (G.2 0, 150, .inl (fun iX => iI ((HT iX : Nat) : Int)))), (a11, .inl (G.2 0, 150, .inl (fun iX => iI ((WD iX : Nat) : Int)))), (a12, .inl (G.2 0, 150, .inl (fun iX => iI ((CL iX : Nat) : Int)))), (a13, .inl (G.2 0, 150, .inl (fun iX => iI ((FN iX : Nat) : Int)))), (a14, .inl (G.2 0, 5, .inl (fun iX => iI ((MT iX : Nat) : Int)))), (a15, .inl (G.2 0, 20, .inl (fun iX => iI (DR iX)))), (a16, .inl (G.2 0, 20, .inl (fun iX => iI (DC iX)))), (a17, .inl (G.2 0, 5, .inl (fun iX => iI (CR iX)))), (a23, .inl (G.2 1, 4, .inl (fun iX => iI (b2i (KP iX)))))]) (w := [(m, .inr (5, [.int (iI (0)), .ref a1, .ref a2, .ref a3, .ref a4, .ref a5, .ref a6, .ref a7, .ref a8, .ref a9, .ref a10, .ref a11, .ref a12, .ref a13, .ref a14, .ref a15, .ref a16, .ref a17, .int (iI (b2i (z.1))), .ref a19, .ref a20, .ref a21, .ref a22, .ref a23]))]) (v := []) [.int (iI (v1)), .int (iI (v2)), .int (iI (v3))] ⟨hx, hb, hml, hown, hts⟩ (c_X5_off_N lM G H.size m a1 a2 a3 a4 a5 a6 a7 a8 a9 a10 a11 a12 a13 a14 a15 a16 a17 a19 a20 a21 a22 a23 z.1 v1 v2 v3 hv (by omega) (by omega) (by omega)) (cwV 3 hts gL_law_X5_off rfl rfl rfl (by decide +kernel) ⟨Nat.le_of_ble_eq_true rfl, Nat.le_of_ble_eq_true rfl⟩) hG (va_recv hG.1 hP (ci := 5) (q0 := 0) rfl rfl) hP hD hS hA [0] [1, 2, 3, 4, 5, 6, 7, 8, 9, 10, 11, 12, 13, 14, 15, 16, 17, 18, 19, 20, 21, 22] rfl rfl (by decide) (fun k q h => by simp at h) ap_nil rfl rfl hl.1 (Nat.le_of_ble_eq_true rfl) ⟨by show cells + 6 + 0 ≤ 600000; omega, by show slots + 83 + 0 ≤ 7302250; omega⟩ dL_law_685 (fun o9 w9 H locs h9 hP hD hS => ?_)
    obtain ⟨rfl, rfl⟩ := h9
    have hP : va_P G.1 vwCl (mX G m a1 a2 a3 a4 a5 a6 a7 a8 a9 a10 a11 a12 a13 a14 a15 a16 a17 a19 a20 a21 a22 a23 MR MC MW MD MY OQ KD TP LF HT WD CL FN MT DR DC CR KP z ++ (cX G x t p im sa qo wo qi wi qs wd qp wp qh wh aw ad ac ao ax (MR 0) (MC 0) (MT 0) (CR 0) (MY 0) (MD 0) MW OQ DC DR SH IM s ++ (va_pl LP f ++ imL I))) H := re_P (ws' := mX G m a1 a2 a3 a4 a5 a6 a7 a8 a9 a10 a11 a12 a13 a14 a15 a16 a17 a19 a20 a21 a22 a23 MR MC MW MD MY OQ KD TP LF HT WD CL FN MT DR DC CR KP z) hP [22, 0, 1, 2, 3, 4, 5, 6, 7, 8, 9, 10, 11, 12, 13, 14, 15, 16, 17, 18, 19, 20, 21] rfl
    have hD : va_D _ (mX G m a1 a2 a3 a4 a5 a6 a7 a8 a9 a10 a11 a12 a13 a14 a15 a16 a17 a19 a20 a21 a22 a23 MR MC MW MD MY OQ KD TP LF HT WD CL FN MT DR DC CR KP z ++ (cX G x t p im sa qo wo qi wi qs wd qp wp qh wh aw ad ac ao ax (MR 0) (MC 0) (MT 0) (CR 0) (MY 0) (MD 0) MW OQ DC DR SH IM s ++ (va_pl LP f ++ imL I))) := re_D (ws' := mX G m a1 a2 a3 a4 a5 a6 a7 a8 a9 a10 a11 a12 a13 a14 a15 a16 a17 a19 a20 a21 a22 a23 MR MC MW MD MY OQ KD TP LF HT WD CL FN MT DR DC CR KP z) hD [22, 0, 1, 2, 3, 4, 5, 6, 7, 8, 9, 10, 11, 12, 13, 14, 15, 16, 17, 18, 19, 20, 21] (by decide) rfl
    have hP := toC_P hP
    have hD := toC_D hD
    refine k_same (a := b2i false) (b := b2i false) (tgt := 885) hx hb (rfl) dL_law_688 (by decide) ?_
    exact next H locs ls ⟨t, p, im, sa, qo, wo, qi, wi, qs, wd, qp, wp, qh, wh, aw, ad, ac, ao, ax, a1, a2, a3, a4, a5, a6, a7, a8, a9, a10, a11, a12, a13, a14, a15, a16, a17, a19, a20, a21, a22, a23, LP, f, I, IM, SH, s, z, MR, MC, MW, MD, MY, OQ, KD, TP, LF, HT, WD, CL, FN, MT, DR, DC, CR, KP, hP, hD, ⟨⟨rMR, rMC, rMW, rOQ, rKD, rTP, rLF, rHT, rWD, rCL, rFN, rMT, rDR, rDC, rCR⟩, hSh, hW, hZ, (fun k hk => imR_mono (hIm k hk) pool_same (fun _ _ => rfl) (fun _ _ => rfl) (fun _ _ => rfl) (fun _ _ => rfl) (fun _ _ => rfl) (fun _ _ => rfl) (fun _ _ => rfl) (fun _ _ => rfl) (fun _ _ => rfl) (fun _ _ => rfl) (fun _ _ => rfl) (fun _ _ => rfl) (fun _ _ => rfl) (fun _ _ => rfl) (fun _ _ => rfl) (fun _ _ => rfl) (fun _ _ => rfl))⟩⟩ hS (lv_sub hl [0, 1, 2, 3] rfl)

set_option maxHeartbeats 4000000 in
set_option maxRecDepth 100000 in
theorem law_creep (lM : Launch) {pM : Program} {eM : Env} {sM : State} {mM : MethodId} {bM : List Frame} {tM : Method} {cM : Code} {b L : Nat} {xs : Nat → Int32} {G : GG} {Q : State → Prop} (C : lcx pM sM mM cM b L xs G) (hL : L ≤ 4096) (x m i cells slots : Nat) (hi : i + 8 ≤ L) (hcl : cells + 6 ≤ 600000) (hsl : slots + 83 ≤ 7302250) (next : ∀ (H : Heap) (locs : List Loc) (ls : Array Slot), INV G (fun q => sM.heap.size ≤ q) x m H → va_S (fun q => sM.heap.size ≤ q) sM.heap H locs → lv_has ls 4 [(0, .ref b), (1, .ref x), (2, .ref m), (3, .int (iI ((i : Nat) : Int)))] → W pM lM eM room_1 sM mM #[Value.ref b] bM tM cM H locs (cells + 6) (slots + 83) Q (F0 mM 885 ls [])) (H : Heap) (locs : List Loc) (ls : Array Slot) (hI : INV G (fun q => sM.heap.size ≤ q) x m H) (hS : va_S (fun q => sM.heap.size ≤ q) sM.heap H locs) (hl : lv_has ls 4 [(0, .ref b), (1, .ref x), (2, .ref m), (3, .int (iI ((i : Nat) : Int)))]) : W pM lM eM room_1 sM mM #[Value.ref b] bM tM cM H locs cells slots Q (F0 mM 693 ls []) := by
  obtain ⟨hx, hb, hml, hown, hts, hX, hbl, hG⟩ := C
  have hA : ∀ q : Nat, sM.heap.size ≤ q → (fun q => sM.heap.size ≤ q) q := fun _ h => h
  have hbA : ¬ (fun q => sM.heap.size ≤ q) b := Nat.not_le.mpr hbl
  obtain ⟨t, p, im, sa, qo, wo, qi, wi, qs, wd, qp, wp, qh, wh, aw, ad, ac, ao, ax, a1, a2, a3, a4, a5, a6, a7, a8, a9, a10, a11, a12, a13, a14, a15, a16, a17, a19, a20, a21, a22, a23, LP, f, I, IM, SH, s, z, MR, MC, MW, MD, MY, OQ, KD, TP, LF, HT, WD, CL, FN, MT, DR, DC, CR, KP, hP, hD, hO⟩ := hI
  obtain ⟨hRn, hSh, hW, hZ, hIm⟩ := hO
  obtain ⟨rMR, rMC, rMW, rOQ, rKD, rTP, rLF, rHT, rWD, rCL, rFN, rMT, rDR, rDC, rCR⟩ := hRn
  have k1 := rMR 0
  have k2 := rMC 0
  have k3 := rMT 0
  have k4 := rCR 0
  have k5 := hSh.2.2.2.2.1
  have k6 := hSh.2.2.2.2.2
  have k7 := hW.1.2.2.2.2
  obtain ⟨v1, e1⟩ : ∃ v : Int, v = (xs (i + 1)).toInt := ⟨_, rfl⟩
  have b1 : -2147483648 ≤ v1 ∧ v1 < 2147483648 := by rw [e1]; exact iI_rng _
  by_cases hv : -8 ≤ v1 ∧ v1 ≤ 8
  · refine lv_aload_n hx hb dL_law_693 rfl (lv_at hl 1 rfl) ?_
    refine lv_aload_n hx hb dL_law_694 rfl (lv_at hl 0 rfl) ?_
    refine lv_iload_n hx hb dL_law_695 rfl (lv_at hl 3 rfl) ?_
    refine lv_iconst (v := iI (1)) hx hb dL_law_696 rfl ?_
    refine k_iaddN (a := i) (b := 1) hx hb dL_law_697 ?_
    refine k_sld hx hb hX hbl hbA hS (z := i + 1) (by omega) hL dL_law_698 ?_
    rw [← e1]
    refine k_rwVY (rest := []) (wr := [(x, .inr (4, [.ref t, .ref p, .ref im])), (aw, .inl (G.2 0, 4, .inl (fun iX => iI ((MW iX : Nat) : Int)))), (ad, .inl (G.2 0, 4, .inl (fun iX => iI (DR iX)))), (ac, .inl (G.2 0, 4, .inl (fun iX => iI (DC iX)))), (ao, .inl (G.2 0, 30, .inl (fun iX => iI ((OQ iX : Nat) : Int)))), (ax, .inl (G.2 2, 30, .inr (.inr (.inr (.inr SH))))), (sa, .inl (G.2 0, 256, .inl (fun iX => iI (s.1.1 iX)))), (wi, .inl (G.2 0, 4 * 16, .inl (fun iX => iI ((s.1.2.1 iX : Nat) : Int)))), (wo, .inl (G.2 0, 16 * 16, .inl (fun iX => iI ((s.1.2.2.1 iX : Nat) : Int)))), (wd, .inl (G.2 0, 1 * 16, .inl (fun iX => iI ((s.1.2.2.2 iX : Nat) : Int)))), (wp, .inl (G.2 0, 4 * 16, .inl (fun iX => iI ((s.2.1 iX : Nat) : Int)))), (wh, .inl (G.2 0, 4 * 16, .inl (fun iX => iI ((s.2.2.1 iX : Nat) : Int)))), (qo, .inr (0, [.int (iI (16)), .ref wo])), (qi, .inr (0, [.int (iI (4)), .ref wi])), (qs, .inr (0, [.int (iI (1)), .ref wd])), (qp, .inr (0, [.int (iI (4)), .ref wp])), (qh, .inr (0, [.int (iI (4)), .ref wh])), (im, .inl (G.2 3, 4, .inr (.inr (.inr (.inr IM)))))]) (w := [(t, .inr (3, [.int (iI ((((MR 0) : Nat) : Int))), .int (iI ((((MC 0) : Nat) : Int))), .int (iI ((((MT 0) : Nat) : Int))), .int (iI ((CR 0))), .int (iI ((((MY 0) : Nat) : Int))), .int (iI ((((MD 0) : Nat) : Int))), .ref aw, .ref ad, .ref ac, .ref ao, .ref ax])), (p, .inr (1, [.ref sa, .ref qo, .ref qi, .ref qs, .ref qp, .ref qh, .int (iI ((((s.2.2.2) : Nat) : Int)))]))]) (v := [(x, .inr (4, [.ref t, .ref p, .ref im]))]) [.int (iI (v1))] ⟨hx, hb, hml, hown, hts⟩ (c_X4_creep lM G H.size x im t (MR 0) (MC 0) (MT 0) (CR 0) (MY 0) (MD 0) aw ad ac ao ax p sa qo qi qs qp qh s.2.2.2 v1 (by omega) (by omega)) (cwV 1 hts gL_law_X4_creep rfl rfl rfl (by decide +kernel) ⟨Nat.le_of_ble_eq_true rfl, Nat.le_of_ble_eq_true rfl⟩) hG (va_recv hG.1 hP (ci := 4) (q0 := 0) rfl rfl) hP hD hS hA [1, 7] [0, 2, 3, 4, 5, 6, 8, 9, 10, 11, 12, 13, 14, 15, 16, 17, 18, 19] rfl rfl (by decide) (rd0 (vx := [(x, .inr (4, [.ref t, .ref p, .ref im]))]) hP [0] rfl) (ap0 (vx := [(x, .inr (4, [.ref t, .ref p, .ref im]))]) hD [1, 7] [0] rfl rfl (by decide)) rfl rfl hl.1 (Nat.le_of_ble_eq_true rfl) ⟨by show cells + 0 ≤ 600000; omega, by show slots + 0 ≤ 7302250; omega⟩ dL_law_699 (fun o9 w9 H locs h9 hP hD hS => ?_)
    obtain ⟨rfl, rfl⟩ := h9
    have hP : va_P G.1 vwCl (cX G x t p im sa qo wo qi wi qs wd qp wp qh wh aw ad ac ao ax (MR 0) (MC 0) (MT 0) (va_up CR 0 v1 0) (MY 0) (MD 0) MW OQ DC DR SH IM (kp s 2) ++ (va_pl LP f ++ (imL I ++ mX G m a1 a2 a3 a4 a5 a6 a7 a8 a9 a10 a11 a12 a13 a14 a15 a16 a17 a19 a20 a21 a22 a23 MR MC MW MD MY OQ KD TP LF HT WD CL FN MT DR DC CR KP z))) H := re_P (ws' := cX G x t p im sa qo wo qi wi qs wd qp wp qh wh aw ad ac ao ax (MR 0) (MC 0) (MT 0) (va_up CR 0 v1 0) (MY 0) (MD 0) MW OQ DC DR SH IM (kp s 2)) hP [0, 18, 1, 2, 3, 4, 5, 19, 6, 7, 8, 9, 10, 11, 12, 13, 14, 15, 16, 17] rfl
    have hD : va_D _ (cX G x t p im sa qo wo qi wi qs wd qp wp qh wh aw ad ac ao ax (MR 0) (MC 0) (MT 0) (va_up CR 0 v1 0) (MY 0) (MD 0) MW OQ DC DR SH IM (kp s 2) ++ (va_pl LP f ++ (imL I ++ mX G m a1 a2 a3 a4 a5 a6 a7 a8 a9 a10 a11 a12 a13 a14 a15 a16 a17 a19 a20 a21 a22 a23 MR MC MW MD MY OQ KD TP LF HT WD CL FN MT DR DC CR KP z))) := re_D (ws' := cX G x t p im sa qo wo qi wi qs wd qp wp qh wh aw ad ac ao ax (MR 0) (MC 0) (MT 0) (va_up CR 0 v1 0) (MY 0) (MD 0) MW OQ DC DR SH IM (kp s 2)) hD [0, 18, 1, 2, 3, 4, 5, 19, 6, 7, 8, 9, 10, 11, 12, 13, 14, 15, 16, 17] (by decide) rfl
    refine W.widen (k := cells + 6) (n := slots + 83) (by show cells + 0 ≤ cells + 6; omega) (by show slots + 0 ≤ slots + 83; omega) ?_
    refine lv_aload_n hx hb dL_law_702 rfl (lv_at hl 2 rfl) ?_
    refine lv_aload_n hx hb dL_law_703 rfl (lv_at hl 0 rfl) ?_
    refine lv_iload_n hx hb dL_law_704 rfl (lv_at hl 3 rfl) ?_
    refine lv_iconst (v := iI (1)) hx hb dL_law_705 rfl ?_
    refine k_iaddN (a := i) (b := 1) hx hb dL_law_706 ?_
    refine k_sld hx hb hX hbl hbA hS (z := i + 1) (by omega) hL dL_law_707 ?_
    rw [← e1]
    have hP := toM_P hP
    have hD := toM_D hD
    refine k_rwVY (rest := [.int (iI (b2i true))]) (wr := [(a19, .inl (G.2 0, 256, .inl (fun iX => iI (z.2.1 iX)))), (a20, .inl (G.2 0, 256, .inl (fun iX => iI ((z.2.2.1 iX : Nat) : Int)))), (a21, .inl (G.2 1, 256, .inl (fun iX => iI (b2i (z.2.2.2.1 iX))))), (a22, .inl (G.2 0, 256, .inl (fun iX => iI ((z.2.2.2.2 iX : Nat) : Int)))), (a1, .inl (G.2 0, 5, .inl (fun iX => iI ((MR iX : Nat) : Int)))), (a2, .inl (G.2 0, 5, .inl (fun iX => iI ((MC iX : Nat) : Int)))), (a3, .inl (G.2 0, 20, .inl (fun iX => iI ((MW iX : Nat) : Int)))), (a4, .inl (G.2 0, 5, .inl (fun iX => iI ((MD iX : Nat) : Int)))), (a5, .inl (G.2 0, 5, .inl (fun iX => iI ((MY iX : Nat) : Int)))), (a6, .inl (G.2 0, 150, .inl (fun iX => iI ((OQ iX : Nat) : Int)))), (a7, .inl (G.2 0, 150, .inl (fun iX => iI ((KD iX : Nat) : Int)))), (a8, .inl (G.2 0, 150, .inl (fun iX => iI (TP iX)))), (a9, .inl (G.2 0, 150, .inl (fun iX => iI (LF iX)))), (a10, .inl (G.2 0, 150, .inl (fun iX => iI ((HT iX : Nat) : Int)))), (a11, .inl (G.2 0, 150, .inl (fun iX => iI ((WD iX : Nat) : Int)))), (a12, .inl (G.2 0, 150, .inl (fun iX => iI ((CL iX : Nat) : Int)))), (a13, .inl (G.2 0, 150, .inl (fun iX => iI ((FN iX : Nat) : Int)))), (a14, .inl (G.2 0, 5, .inl (fun iX => iI ((MT iX : Nat) : Int)))), (a15, .inl (G.2 0, 20, .inl (fun iX => iI (DR iX)))), (a16, .inl (G.2 0, 20, .inl (fun iX => iI (DC iX)))), (a23, .inl (G.2 1, 4, .inl (fun iX => iI (b2i (KP iX)))))]) (w := [(m, .inr (5, [.int (iI (0)), .ref a1, .ref a2, .ref a3, .ref a4, .ref a5, .ref a6, .ref a7, .ref a8, .ref a9, .ref a10, .ref a11, .ref a12, .ref a13, .ref a14, .ref a15, .ref a16, .ref a17, .int (iI (b2i (z.1))), .ref a19, .ref a20, .ref a21, .ref a22, .ref a23])), (a17, .inl (G.2 0, 5, .inl (fun iX => iI (CR iX))))]) (v := []) [.int (iI (v1))] ⟨hx, hb, hml, hown, hts⟩ (c_X5_creep lM G H.size m a1 a2 a3 a4 a5 a6 a7 a8 a9 a10 a11 a12 a13 a14 a15 a16 a17 a19 a20 a21 a22 a23 z.1 v1 CR (by omega)) (cwV 1 hts gL_law_X5_creep rfl rfl rfl (by decide +kernel) ⟨Nat.le_of_ble_eq_true rfl, Nat.le_of_ble_eq_true rfl⟩) hG (va_recv hG.1 hP (ci := 5) (q0 := 0) rfl rfl) hP hD hS hA [0, 21] [1, 2, 3, 4, 5, 6, 7, 8, 9, 10, 11, 12, 13, 14, 15, 16, 17, 18, 19, 20, 22] rfl rfl (by decide) (fun k q h => by simp at h) ap_nil rfl rfl hl.1 (Nat.le_of_ble_eq_true rfl) ⟨by show cells + 6 + 0 ≤ 600000; omega, by show slots + 83 + 0 ≤ 7302250; omega⟩ dL_law_708 (fun o9 w9 H locs h9 hP hD hS => ?_)
    obtain ⟨rfl, rfl⟩ := h9
    have hP : va_P G.1 vwCl (mX G m a1 a2 a3 a4 a5 a6 a7 a8 a9 a10 a11 a12 a13 a14 a15 a16 a17 a19 a20 a21 a22 a23 MR MC MW MD MY OQ KD TP LF HT WD CL FN MT DR DC (va_up CR 0 v1) KP z ++ (cX G x t p im sa qo wo qi wi qs wd qp wp qh wh aw ad ac ao ax (MR 0) (MC 0) (MT 0) (va_up CR 0 v1 0) (MY 0) (MD 0) MW OQ DC DR SH IM (kp s 2) ++ (va_pl LP f ++ imL I))) H := re_P (ws' := mX G m a1 a2 a3 a4 a5 a6 a7 a8 a9 a10 a11 a12 a13 a14 a15 a16 a17 a19 a20 a21 a22 a23 MR MC MW MD MY OQ KD TP LF HT WD CL FN MT DR DC (va_up CR 0 v1) KP z) hP [21, 0, 1, 2, 3, 4, 5, 6, 7, 8, 9, 10, 11, 12, 13, 14, 15, 16, 17, 18, 19, 22, 20] rfl
    have hD : va_D _ (mX G m a1 a2 a3 a4 a5 a6 a7 a8 a9 a10 a11 a12 a13 a14 a15 a16 a17 a19 a20 a21 a22 a23 MR MC MW MD MY OQ KD TP LF HT WD CL FN MT DR DC (va_up CR 0 v1) KP z ++ (cX G x t p im sa qo wo qi wi qs wd qp wp qh wh aw ad ac ao ax (MR 0) (MC 0) (MT 0) (va_up CR 0 v1 0) (MY 0) (MD 0) MW OQ DC DR SH IM (kp s 2) ++ (va_pl LP f ++ imL I))) := re_D (ws' := mX G m a1 a2 a3 a4 a5 a6 a7 a8 a9 a10 a11 a12 a13 a14 a15 a16 a17 a19 a20 a21 a22 a23 MR MC MW MD MY OQ KD TP LF HT WD CL FN MT DR DC (va_up CR 0 v1) KP z) hD [21, 0, 1, 2, 3, 4, 5, 6, 7, 8, 9, 10, 11, 12, 13, 14, 15, 16, 17, 18, 19, 22, 20] (by decide) rfl
    have hP := toC_P hP
    have hD := toC_D hD
    refine k_same (a := b2i true) (b := b2i true) (tgt := 885) hx hb (rfl) dL_law_711 (by decide) ?_
    exact next H locs ls ⟨t, p, im, sa, qo, wo, qi, wi, qs, wd, qp, wp, qh, wh, aw, ad, ac, ao, ax, a1, a2, a3, a4, a5, a6, a7, a8, a9, a10, a11, a12, a13, a14, a15, a16, a17, a19, a20, a21, a22, a23, LP, f, I, IM, SH, kp s 2, z, MR, MC, MW, MD, MY, OQ, KD, TP, LF, HT, WD, CL, FN, MT, DR, DC, va_up CR 0 v1, KP, hP, hD, ⟨⟨rMR, rMC, rMW, rOQ, rKD, rTP, rLF, rHT, rWD, rCL, rFN, rMT, rDR, rDC, (up_all (P := fun y => -8 ≤ y ∧ y ≤ 8) hv rCR)⟩, hSh, wV_k2 hW, hZ, (fun k hk => imR_mono (hIm k hk) pool_same (fun _ _ => rfl) (fun _ _ => rfl) (fun _ _ => rfl) (fun _ _ => rfl) (fun _ _ => rfl) (fun _ _ => rfl) (fun _ _ => rfl) (fun _ _ => rfl) (fun _ _ => rfl) (fun _ _ => rfl) (fun _ _ => rfl) (fun _ _ => rfl) (fun _ _ => rfl) (fun _ _ => rfl) (fun _ _ => rfl) (fun _ _ => rfl) (sl_up (b := 1) (by omega)))⟩⟩ hS (lv_sub hl [0, 1, 2, 3] rfl)
  · refine lv_aload_n hx hb dL_law_693 rfl (lv_at hl 1 rfl) ?_
    refine lv_aload_n hx hb dL_law_694 rfl (lv_at hl 0 rfl) ?_
    refine lv_iload_n hx hb dL_law_695 rfl (lv_at hl 3 rfl) ?_
    refine lv_iconst (v := iI (1)) hx hb dL_law_696 rfl ?_
    refine k_iaddN (a := i) (b := 1) hx hb dL_law_697 ?_
    refine k_sld hx hb hX hbl hbA hS (z := i + 1) (by omega) hL dL_law_698 ?_
    rw [← e1]
    refine k_roV (rest := []) [.int (iI (v1))] ⟨hx, hb, hml, hown, hts⟩ (c_X4_creep_N lM G x v1 hv (by omega)) (cwV 1 hts gL_law_X4_creep rfl rfl rfl (by decide +kernel) ⟨Nat.le_of_ble_eq_true rfl, Nat.le_of_ble_eq_true rfl⟩) hG (va_recv hG.1 hP (ci := 4) (q0 := 0) rfl rfl) (fun k q h => by simp at h) rfl rfl hl.1 (Nat.le_of_ble_eq_true rfl) ⟨by show cells ≤ 600000; omega, by show slots ≤ 7302250; omega⟩ dL_law_699 ?_
    refine W.widen (k := cells + 6) (n := slots + 83) (by show cells + 0 ≤ cells + 6; omega) (by show slots + 0 ≤ slots + 83; omega) ?_
    refine lv_aload_n hx hb dL_law_702 rfl (lv_at hl 2 rfl) ?_
    refine lv_aload_n hx hb dL_law_703 rfl (lv_at hl 0 rfl) ?_
    refine lv_iload_n hx hb dL_law_704 rfl (lv_at hl 3 rfl) ?_
    refine lv_iconst (v := iI (1)) hx hb dL_law_705 rfl ?_
    refine k_iaddN (a := i) (b := 1) hx hb dL_law_706 ?_
    refine k_sld hx hb hX hbl hbA hS (z := i + 1) (by omega) hL dL_law_707 ?_
    rw [← e1]
    have hP := toM_P hP
    have hD := toM_D hD
    refine k_rwVY (rest := [.int (iI (b2i false))]) (wr := [(a19, .inl (G.2 0, 256, .inl (fun iX => iI (z.2.1 iX)))), (a20, .inl (G.2 0, 256, .inl (fun iX => iI ((z.2.2.1 iX : Nat) : Int)))), (a21, .inl (G.2 1, 256, .inl (fun iX => iI (b2i (z.2.2.2.1 iX))))), (a22, .inl (G.2 0, 256, .inl (fun iX => iI ((z.2.2.2.2 iX : Nat) : Int)))), (a1, .inl (G.2 0, 5, .inl (fun iX => iI ((MR iX : Nat) : Int)))), (a2, .inl (G.2 0, 5, .inl (fun iX => iI ((MC iX : Nat) : Int)))), (a3, .inl (G.2 0, 20, .inl (fun iX => iI ((MW iX : Nat) : Int)))), (a4, .inl (G.2 0, 5, .inl (fun iX => iI ((MD iX : Nat) : Int)))), (a5, .inl (G.2 0, 5, .inl (fun iX => iI ((MY iX : Nat) : Int)))), (a6, .inl (G.2 0, 150, .inl (fun iX => iI ((OQ iX : Nat) : Int)))), (a7, .inl (G.2 0, 150, .inl (fun iX => iI ((KD iX : Nat) : Int)))), (a8, .inl (G.2 0, 150, .inl (fun iX => iI (TP iX)))), (a9, .inl (G.2 0, 150, .inl (fun iX => iI (LF iX)))), (a10, .inl (G.2 0, 150, .inl (fun iX => iI ((HT iX : Nat) : Int)))), (a11, .inl (G.2 0, 150, .inl (fun iX => iI ((WD iX : Nat) : Int)))), (a12, .inl (G.2 0, 150, .inl (fun iX => iI ((CL iX : Nat) : Int)))), (a13, .inl (G.2 0, 150, .inl (fun iX => iI ((FN iX : Nat) : Int)))), (a14, .inl (G.2 0, 5, .inl (fun iX => iI ((MT iX : Nat) : Int)))), (a15, .inl (G.2 0, 20, .inl (fun iX => iI (DR iX)))), (a16, .inl (G.2 0, 20, .inl (fun iX => iI (DC iX)))), (a17, .inl (G.2 0, 5, .inl (fun iX => iI (CR iX)))), (a23, .inl (G.2 1, 4, .inl (fun iX => iI (b2i (KP iX)))))]) (w := [(m, .inr (5, [.int (iI (0)), .ref a1, .ref a2, .ref a3, .ref a4, .ref a5, .ref a6, .ref a7, .ref a8, .ref a9, .ref a10, .ref a11, .ref a12, .ref a13, .ref a14, .ref a15, .ref a16, .ref a17, .int (iI (b2i (z.1))), .ref a19, .ref a20, .ref a21, .ref a22, .ref a23]))]) (v := []) [.int (iI (v1))] ⟨hx, hb, hml, hown, hts⟩ (c_X5_creep_N lM G H.size m a1 a2 a3 a4 a5 a6 a7 a8 a9 a10 a11 a12 a13 a14 a15 a16 a17 a19 a20 a21 a22 a23 z.1 v1 hv (by omega)) (cwV 1 hts gL_law_X5_creep rfl rfl rfl (by decide +kernel) ⟨Nat.le_of_ble_eq_true rfl, Nat.le_of_ble_eq_true rfl⟩) hG (va_recv hG.1 hP (ci := 5) (q0 := 0) rfl rfl) hP hD hS hA [0] [1, 2, 3, 4, 5, 6, 7, 8, 9, 10, 11, 12, 13, 14, 15, 16, 17, 18, 19, 20, 21, 22] rfl rfl (by decide) (fun k q h => by simp at h) ap_nil rfl rfl hl.1 (Nat.le_of_ble_eq_true rfl) ⟨by show cells + 6 + 0 ≤ 600000; omega, by show slots + 83 + 0 ≤ 7302250; omega⟩ dL_law_708 (fun o9 w9 H locs h9 hP hD hS => ?_)
    obtain ⟨rfl, rfl⟩ := h9
    have hP : va_P G.1 vwCl (mX G m a1 a2 a3 a4 a5 a6 a7 a8 a9 a10 a11 a12 a13 a14 a15 a16 a17 a19 a20 a21 a22 a23 MR MC MW MD MY OQ KD TP LF HT WD CL FN MT DR DC CR KP z ++ (cX G x t p im sa qo wo qi wi qs wd qp wp qh wh aw ad ac ao ax (MR 0) (MC 0) (MT 0) (CR 0) (MY 0) (MD 0) MW OQ DC DR SH IM s ++ (va_pl LP f ++ imL I))) H := re_P (ws' := mX G m a1 a2 a3 a4 a5 a6 a7 a8 a9 a10 a11 a12 a13 a14 a15 a16 a17 a19 a20 a21 a22 a23 MR MC MW MD MY OQ KD TP LF HT WD CL FN MT DR DC CR KP z) hP [22, 0, 1, 2, 3, 4, 5, 6, 7, 8, 9, 10, 11, 12, 13, 14, 15, 16, 17, 18, 19, 20, 21] rfl
    have hD : va_D _ (mX G m a1 a2 a3 a4 a5 a6 a7 a8 a9 a10 a11 a12 a13 a14 a15 a16 a17 a19 a20 a21 a22 a23 MR MC MW MD MY OQ KD TP LF HT WD CL FN MT DR DC CR KP z ++ (cX G x t p im sa qo wo qi wi qs wd qp wp qh wh aw ad ac ao ax (MR 0) (MC 0) (MT 0) (CR 0) (MY 0) (MD 0) MW OQ DC DR SH IM s ++ (va_pl LP f ++ imL I))) := re_D (ws' := mX G m a1 a2 a3 a4 a5 a6 a7 a8 a9 a10 a11 a12 a13 a14 a15 a16 a17 a19 a20 a21 a22 a23 MR MC MW MD MY OQ KD TP LF HT WD CL FN MT DR DC CR KP z) hD [22, 0, 1, 2, 3, 4, 5, 6, 7, 8, 9, 10, 11, 12, 13, 14, 15, 16, 17, 18, 19, 20, 21] (by decide) rfl
    have hP := toC_P hP
    have hD := toC_D hD
    refine k_same (a := b2i false) (b := b2i false) (tgt := 885) hx hb (rfl) dL_law_711 (by decide) ?_
    exact next H locs ls ⟨t, p, im, sa, qo, wo, qi, wi, qs, wd, qp, wp, qh, wh, aw, ad, ac, ao, ax, a1, a2, a3, a4, a5, a6, a7, a8, a9, a10, a11, a12, a13, a14, a15, a16, a17, a19, a20, a21, a22, a23, LP, f, I, IM, SH, s, z, MR, MC, MW, MD, MY, OQ, KD, TP, LF, HT, WD, CL, FN, MT, DR, DC, CR, KP, hP, hD, ⟨⟨rMR, rMC, rMW, rOQ, rKD, rTP, rLF, rHT, rWD, rCL, rFN, rMT, rDR, rDC, rCR⟩, hSh, hW, hZ, (fun k hk => imR_mono (hIm k hk) pool_same (fun _ _ => rfl) (fun _ _ => rfl) (fun _ _ => rfl) (fun _ _ => rfl) (fun _ _ => rfl) (fun _ _ => rfl) (fun _ _ => rfl) (fun _ _ => rfl) (fun _ _ => rfl) (fun _ _ => rfl) (fun _ _ => rfl) (fun _ _ => rfl) (fun _ _ => rfl) (fun _ _ => rfl) (fun _ _ => rfl) (fun _ _ => rfl) (fun _ _ => rfl))⟩⟩ hS (lv_sub hl [0, 1, 2, 3] rfl)
