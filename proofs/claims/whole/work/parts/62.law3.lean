set_option maxHeartbeats 4000000 in
set_option maxRecDepth 100000 in
theorem law_shape (lM : Launch) {pM : Program} {eM : Env} {sM : State} {mM : MethodId} {bM : List Frame} {tM : Method} {cM : Code} {b L : Nat} {xs : Nat → Int32} {G : GG} {Q : State → Prop} (C : lcx pM sM mM cM b L xs G) (hL : L ≤ 4096) (x m i cells slots : Nat) (hi : i + 8 ≤ L) (hcl : cells + 6 ≤ 600000) (hsl : slots + 83 ≤ 7302250) (next : ∀ (H : Heap) (locs : List Loc) (ls : Array Slot), INV G (fun q => sM.heap.size ≤ q) x m H → va_S (fun q => sM.heap.size ≤ q) sM.heap H locs → lv_has ls 4 [(0, .ref b), (1, .ref x), (2, .ref m), (3, .int (iI ((i : Nat) : Int)))] → W pM lM eM room_1 sM mM #[Value.ref b] bM tM cM H locs (cells + 6) (slots + 83) Q (F0 mM 885 ls [])) (H : Heap) (locs : List Loc) (ls : Array Slot) (hI : INV G (fun q => sM.heap.size ≤ q) x m H) (hS : va_S (fun q => sM.heap.size ≤ q) sM.heap H locs) (hl : lv_has ls 4 [(0, .ref b), (1, .ref x), (2, .ref m), (3, .int (iI ((i : Nat) : Int)))]) : W pM lM eM room_1 sM mM #[Value.ref b] bM tM cM H locs cells slots Q (F0 mM 198 ls []) := by
  obtain ⟨hx, hb, hml, hown, hts, hX, hbl, hG⟩ := C
  have hA : ∀ q : Nat, sM.heap.size ≤ q → (fun q => sM.heap.size ≤ q) q := fun _ h => h
  have hbA : ¬ (fun q => sM.heap.size ≤ q) b := Nat.not_le.mpr hbl
  obtain ⟨t, p, im, sa, qo, wo, qi, wi, qs, wd, qp, wp, qh, wh, aw, ad, ac, ao, ax, a1, a2, a3, a4, a5, a6, a7, a8, a9, a10, a11, a12, a13, a14, a15, a16, a17, a19, a20, a21, a22, a23, LP, f, I, IM, SH, s, z, MR, MC, MW, MD, MY, OQ, KD, TP, LF, HT, WD, CL, FN, MT, DR, DC, CR, KP, hP, hD, hO⟩ := hI
  obtain ⟨hRn, hSh, hW, hZ, hIm⟩ := hO
  obtain ⟨rMR, rMC, rMW, rOQ, rKD, rTP, rLF, rHT, rWD, rCL, rFN, rMT, rDR, rDC, rCR⟩ := hRn
  have k1 := rMR 0
  have k2 := rMC 0
  have k3 := rMT 0
  have k4 := rCR 0
  have k5 := hSh.2.2.2.2.1
  have k6 := hSh.2.2.2.2.2
  have k7 := hW.1.2.2.2.2
  obtain ⟨v1, e1⟩ : ∃ v : Int, v = (xs (i + 1)).toInt := ⟨_, rfl⟩
  have b1 : -2147483648 ≤ v1 ∧ v1 < 2147483648 := by rw [e1]; exact iI_rng _
  obtain ⟨v2, e2⟩ : ∃ v : Int, v = (xs (i + 2)).toInt := ⟨_, rfl⟩
  have b2 : -2147483648 ≤ v2 ∧ v2 < 2147483648 := by rw [e2]; exact iI_rng _
  obtain ⟨v3, e3⟩ : ∃ v : Int, v = (xs (i + 3)).toInt := ⟨_, rfl⟩
  have b3 : -2147483648 ≤ v3 ∧ v3 < 2147483648 := by rw [e3]; exact iI_rng _
  obtain ⟨v4, e4⟩ : ∃ v : Int, v = (xs (i + 4)).toInt := ⟨_, rfl⟩
  have b4 : -2147483648 ≤ v4 ∧ v4 < 2147483648 := by rw [e4]; exact iI_rng _
  obtain ⟨v5, e5⟩ : ∃ v : Int, v = (xs (i + 5)).toInt := ⟨_, rfl⟩
  have b5 : -2147483648 ≤ v5 ∧ v5 < 2147483648 := by rw [e5]; exact iI_rng _
  obtain ⟨v6, e6⟩ : ∃ v : Int, v = (xs (i + 6)).toInt := ⟨_, rfl⟩
  have b6 : -2147483648 ≤ v6 ∧ v6 < 2147483648 := by rw [e6]; exact iI_rng _
  obtain ⟨v7, e7⟩ : ∃ v : Int, v = (xs (i + 7)).toInt := ⟨_, rfl⟩
  have b7 : -2147483648 ≤ v7 ∧ v7 < 2147483648 := by rw [e7]; exact iI_rng _
  by_cases hv : (0 ≤ v1 ∧ v1 ≤ 3) ∧ ((-16 ≤ v2 ∧ v2 ≤ 31) ∧ (-16 ≤ v3 ∧ v3 ≤ 31)) ∧ (1 ≤ v4 ∧ v4 ≤ 32) ∧ (1 ≤ v5 ∧ v5 ≤ 32) ∧ (0 ≤ v6 ∧ v6 ≤ 15)
  · obtain ⟨kd, rfl⟩ : ∃ kd : Nat, v1 = (kd : Int) := ⟨(v1).toNat, by omega⟩
    obtain ⟨ht, rfl⟩ : ∃ ht : Nat, v4 = (ht : Int) := ⟨(v4).toNat, by omega⟩
    obtain ⟨wt, rfl⟩ : ∃ wt : Nat, v5 = (wt : Int) := ⟨(v5).toNat, by omega⟩
    obtain ⟨cl, rfl⟩ : ∃ cl : Nat, v6 = (cl : Int) := ⟨(v6).toNat, by omega⟩
    by_cases hm : MD 0 < 30
    · refine lv_aload_n hx hb dL_law_198 rfl (lv_at hl 1 rfl) ?_
      refine lv_aload_n hx hb dL_law_199 rfl (lv_at hl 0 rfl) ?_
      refine lv_iload_n hx hb dL_law_200 rfl (lv_at hl 3 rfl) ?_
      refine lv_iconst (v := iI (1)) hx hb dL_law_201 rfl ?_
      refine k_iaddN (a := i) (b := 1) hx hb dL_law_202 ?_
      refine k_sld hx hb hX hbl hbA hS (z := i + 1) (by omega) hL dL_law_203 ?_
      rw [← e1]
      refine lv_aload_n hx hb dL_law_204 rfl (lv_at hl 0 rfl) ?_
      refine lv_iload_n hx hb dL_law_205 rfl (lv_at hl 3 rfl) ?_
      refine lv_iconst (v := iI (2)) hx hb dL_law_206 rfl ?_
      refine k_iaddN (a := i) (b := 2) hx hb dL_law_207 ?_
      refine k_sld hx hb hX hbl hbA hS (z := i + 2) (by omega) hL dL_law_208 ?_
      rw [← e2]
      refine lv_aload_n hx hb dL_law_209 rfl (lv_at hl 0 rfl) ?_
      refine lv_iload_n hx hb dL_law_210 rfl (lv_at hl 3 rfl) ?_
      refine lv_iconst (v := iI (3)) hx hb dL_law_211 rfl ?_
      refine k_iaddN (a := i) (b := 3) hx hb dL_law_212 ?_
      refine k_sld hx hb hX hbl hbA hS (z := i + 3) (by omega) hL dL_law_213 ?_
      rw [← e3]
      refine lv_aload_n hx hb dL_law_214 rfl (lv_at hl 0 rfl) ?_
      refine lv_iload_n hx hb dL_law_215 rfl (lv_at hl 3 rfl) ?_
      refine lv_iconst (v := iI (4)) hx hb dL_law_216 rfl ?_
      refine k_iaddN (a := i) (b := 4) hx hb dL_law_217 ?_
      refine k_sld hx hb hX hbl hbA hS (z := i + 4) (by omega) hL dL_law_218 ?_
      rw [← e4]
      refine lv_aload_n hx hb dL_law_219 rfl (lv_at hl 0 rfl) ?_
      refine lv_iload_n hx hb dL_law_220 rfl (lv_at hl 3 rfl) ?_
      refine lv_iconst (v := iI (5)) hx hb dL_law_221 rfl ?_
      refine k_iaddN (a := i) (b := 5) hx hb dL_law_222 ?_
      refine k_sld hx hb hX hbl hbA hS (z := i + 5) (by omega) hL dL_law_223 ?_
      rw [← e5]
      refine lv_aload_n hx hb dL_law_224 rfl (lv_at hl 0 rfl) ?_
      refine lv_iload_n hx hb dL_law_225 rfl (lv_at hl 3 rfl) ?_
      refine lv_bipush (v := iI (6)) hx hb dL_law_226 (by decide) ?_
      refine k_iaddN (a := i) (b := 6) hx hb dL_law_228 ?_
      refine k_sld hx hb hX hbl hbA hS (z := i + 6) (by omega) hL dL_law_229 ?_
      rw [← e6]
      refine lv_aload_n hx hb dL_law_230 rfl (lv_at hl 0 rfl) ?_
      refine lv_iload_n hx hb dL_law_231 rfl (lv_at hl 3 rfl) ?_
      refine lv_bipush (v := iI (7)) hx hb dL_law_232 (by decide) ?_
      refine k_iaddN (a := i) (b := 7) hx hb dL_law_234 ?_
      refine k_sld hx hb hX hbl hbA hS (z := i + 7) (by omega) hL dL_law_235 ?_
      rw [← e7]
      refine k_if_eq (a := v7) (tgt := 243) hx hb (by omega) dL_law_236 (by decide) (fun c_236 => ?_) (fun c_236 => ?_)
      · refine lv_iconst (v := iI (0)) hx hb dL_law_243 rfl ?_
        refine k_rwVY (rest := []) (wr := [(x, .inr (4, [.ref t, .ref p, .ref im])), (aw, .inl (G.2 0, 4, .inl (fun iX => iI ((MW iX : Nat) : Int)))), (ad, .inl (G.2 0, 4, .inl (fun iX => iI (DR iX)))), (ac, .inl (G.2 0, 4, .inl (fun iX => iI (DC iX)))), (sa, .inl (G.2 0, 256, .inl (fun iX => iI (s.1.1 iX)))), (wi, .inl (G.2 0, 4 * 16, .inl (fun iX => iI ((s.1.2.1 iX : Nat) : Int)))), (wo, .inl (G.2 0, 16 * 16, .inl (fun iX => iI ((s.1.2.2.1 iX : Nat) : Int)))), (wd, .inl (G.2 0, 1 * 16, .inl (fun iX => iI ((s.1.2.2.2 iX : Nat) : Int)))), (wp, .inl (G.2 0, 4 * 16, .inl (fun iX => iI ((s.2.1 iX : Nat) : Int)))), (wh, .inl (G.2 0, 4 * 16, .inl (fun iX => iI ((s.2.2.1 iX : Nat) : Int)))), (qo, .inr (0, [.int (iI (16)), .ref wo])), (qi, .inr (0, [.int (iI (4)), .ref wi])), (qs, .inr (0, [.int (iI (1)), .ref wd])), (qp, .inr (0, [.int (iI (4)), .ref wp])), (qh, .inr (0, [.int (iI (4)), .ref wh])), (im, .inl (G.2 3, 4, .inr (.inr (.inr (.inr IM)))))]) (w := [(t, .inr (3, [.int (iI ((((MR 0) : Nat) : Int))), .int (iI ((((MC 0) : Nat) : Int))), .int (iI ((((MT 0) : Nat) : Int))), .int (iI ((CR 0))), .int (iI ((((MY 0) : Nat) : Int))), .int (iI ((((MD 0) : Nat) : Int))), .ref aw, .ref ad, .ref ac, .ref ao, .ref ax])), (ao, .inl (G.2 0, 30, .inl (fun iX => iI ((OQ iX : Nat) : Int)))), (ax, .inl (G.2 2, 30, .inr (.inr (.inr (.inr SH))))), (p, .inr (1, [.ref sa, .ref qo, .ref qi, .ref qs, .ref qp, .ref qh, .int (iI ((((s.2.2.2) : Nat) : Int)))]))]) (v := [(x, .inr (4, [.ref t, .ref p, .ref im]))]) [.int (iI (((kd : Nat) : Int))), .int (iI (v2)), .int (iI (v3)), .int (iI (((ht : Nat) : Int))), .int (iI (((wt : Nat) : Int))), .int (iI (((cl : Nat) : Int))), .int (iI (0))] ⟨hx, hb, hml, hown, hts⟩ (c_X4_shape lM G H.size x im t (MR 0) (MC 0) (MT 0) (CR 0) (MY 0) (MD 0) aw ad ac ao ax p sa qo qi qs qp qh s.2.2.2 OQ SH kd v2 v3 ht wt cl false (by omega) hv.2.1 (by omega) (by omega) (by omega) (by omega) (by omega) (by omega)) (cwV 7 hts gL_law_X4_shape rfl rfl rfl (by decide +kernel) ⟨Nat.le_of_ble_eq_true rfl, Nat.le_of_ble_eq_true rfl⟩) hG (va_recv hG.1 hP (ci := 4) (q0 := 0) rfl rfl) hP hD hS hA [1, 5, 6, 7] [0, 2, 3, 4, 8, 9, 10, 11, 12, 13, 14, 15, 16, 17, 18, 19] rfl rfl (by decide) (rd0 (vx := [(x, .inr (4, [.ref t, .ref p, .ref im]))]) hP [0] rfl) (ap0 (vx := [(x, .inr (4, [.ref t, .ref p, .ref im]))]) hD [1, 5, 6, 7] [0] rfl rfl (by decide)) rfl rfl hl.1 (Nat.le_of_ble_eq_true rfl) ⟨by show cells + 1 ≤ 600000; omega, by show slots + 7 ≤ 7302250; omega⟩ dL_law_244 (fun o9 w9 H locs h9 hP hD hS => ?_)
        obtain ⟨qn_244, rfl, rfl⟩ := h9
        have hP : va_P G.1 vwCl ((cX G x t p im sa qo wo qi wi qs wd qp wp qh wh aw ad ac ao ax (MR 0) (MC 0) (MT 0) (CR 0) (va_up MY 0 (MY 0 + 1) 0) (va_up MD 0 (MD 0 + 1) 0) MW (va_up OQ (MY 0) (MD 0)) DC DR (va_up SH (MD 0) (some qn_244)) IM (kp s 0) ++ [(qn_244, shE (kd, v2, v3, ht, wt, cl, false))]) ++ (va_pl LP f ++ (imL I ++ mX G m a1 a2 a3 a4 a5 a6 a7 a8 a9 a10 a11 a12 a13 a14 a15 a16 a17 a19 a20 a21 a22 a23 MR MC MW MD MY OQ KD TP LF HT WD CL FN MT DR DC CR KP z))) H := re_P (ws' := (cX G x t p im sa qo wo qi wi qs wd qp wp qh wh aw ad ac ao ax (MR 0) (MC 0) (MT 0) (CR 0) (va_up MY 0 (MY 0 + 1) 0) (va_up MD 0 (MD 0 + 1) 0) MW (va_up OQ (MY 0) (MD 0)) DC DR (va_up SH (MD 0) (some qn_244)) IM (kp s 0) ++ [(qn_244, shE (kd, v2, v3, ht, wt, cl, false))])) hP [0, 16, 1, 2, 3, 17, 18, 19, 4, 5, 6, 7, 8, 9, 10, 11, 12, 13, 14, 15, 20] rfl
        have hD : va_D _ ((cX G x t p im sa qo wo qi wi qs wd qp wp qh wh aw ad ac ao ax (MR 0) (MC 0) (MT 0) (CR 0) (va_up MY 0 (MY 0 + 1) 0) (va_up MD 0 (MD 0 + 1) 0) MW (va_up OQ (MY 0) (MD 0)) DC DR (va_up SH (MD 0) (some qn_244)) IM (kp s 0) ++ [(qn_244, shE (kd, v2, v3, ht, wt, cl, false))]) ++ (va_pl LP f ++ (imL I ++ mX G m a1 a2 a3 a4 a5 a6 a7 a8 a9 a10 a11 a12 a13 a14 a15 a16 a17 a19 a20 a21 a22 a23 MR MC MW MD MY OQ KD TP LF HT WD CL FN MT DR DC CR KP z))) := re_D (ws' := (cX G x t p im sa qo wo qi wi qs wd qp wp qh wh aw ad ac ao ax (MR 0) (MC 0) (MT 0) (CR 0) (va_up MY 0 (MY 0 + 1) 0) (va_up MD 0 (MD 0 + 1) 0) MW (va_up OQ (MY 0) (MD 0)) DC DR (va_up SH (MD 0) (some qn_244)) IM (kp s 0) ++ [(qn_244, shE (kd, v2, v3, ht, wt, cl, false))])) hD [0, 16, 1, 2, 3, 17, 18, 19, 4, 5, 6, 7, 8, 9, 10, 11, 12, 13, 14, 15, 20] (by decide) rfl
        obtain ⟨hqn, hP, hD⟩ := pl_push (q := qn_244) (e := shE (kd, v2, v3, ht, wt, cl, false)) hP hD
        refine W.widen (k := cells + 6) (n := slots + 83) (by show cells + 1 ≤ cells + 6; omega) (by show slots + 7 ≤ slots + 83; omega) ?_
        refine lv_aload_n hx hb dL_law_247 rfl (lv_at hl 2 rfl) ?_
        refine lv_aload_n hx hb dL_law_248 rfl (lv_at hl 0 rfl) ?_
        refine lv_iload_n hx hb dL_law_249 rfl (lv_at hl 3 rfl) ?_
        refine lv_iconst (v := iI (1)) hx hb dL_law_250 rfl ?_
        refine k_iaddN (a := i) (b := 1) hx hb dL_law_251 ?_
        refine k_sld hx hb hX hbl hbA hS (z := i + 1) (by omega) hL dL_law_252 ?_
        rw [← e1]
        refine lv_aload_n hx hb dL_law_253 rfl (lv_at hl 0 rfl) ?_
        refine lv_iload_n hx hb dL_law_254 rfl (lv_at hl 3 rfl) ?_
        refine lv_iconst (v := iI (2)) hx hb dL_law_255 rfl ?_
        refine k_iaddN (a := i) (b := 2) hx hb dL_law_256 ?_
        refine k_sld hx hb hX hbl hbA hS (z := i + 2) (by omega) hL dL_law_257 ?_
        rw [← e2]
        refine lv_aload_n hx hb dL_law_258 rfl (lv_at hl 0 rfl) ?_
        refine lv_iload_n hx hb dL_law_259 rfl (lv_at hl 3 rfl) ?_
        refine lv_iconst (v := iI (3)) hx hb dL_law_260 rfl ?_
        refine k_iaddN (a := i) (b := 3) hx hb dL_law_261 ?_
        refine k_sld hx hb hX hbl hbA hS (z := i + 3) (by omega) hL dL_law_262 ?_
        rw [← e3]
        refine lv_aload_n hx hb dL_law_263 rfl (lv_at hl 0 rfl) ?_
        refine lv_iload_n hx hb dL_law_264 rfl (lv_at hl 3 rfl) ?_
        refine lv_iconst (v := iI (4)) hx hb dL_law_265 rfl ?_
        refine k_iaddN (a := i) (b := 4) hx hb dL_law_266 ?_
        refine k_sld hx hb hX hbl hbA hS (z := i + 4) (by omega) hL dL_law_267 ?_
        rw [← e4]
        refine lv_aload_n hx hb dL_law_268 rfl (lv_at hl 0 rfl) ?_
        refine lv_iload_n hx hb dL_law_269 rfl (lv_at hl 3 rfl) ?_
        refine lv_iconst (v := iI (5)) hx hb dL_law_270 rfl ?_
        refine k_iaddN (a := i) (b := 5) hx hb dL_law_271 ?_
        refine k_sld hx hb hX hbl hbA hS (z := i + 5) (by omega) hL dL_law_272 ?_
        rw [← e5]
        refine lv_aload_n hx hb dL_law_273 rfl (lv_at hl 0 rfl) ?_
        refine lv_iload_n hx hb dL_law_274 rfl (lv_at hl 3 rfl) ?_
        refine lv_bipush (v := iI (6)) hx hb dL_law_275 (by decide) ?_
        refine k_iaddN (a := i) (b := 6) hx hb dL_law_277 ?_
        refine k_sld hx hb hX hbl hbA hS (z := i + 6) (by omega) hL dL_law_278 ?_
        rw [← e6]
        refine lv_aload_n hx hb dL_law_279 rfl (lv_at hl 0 rfl) ?_
        refine lv_iload_n hx hb dL_law_280 rfl (lv_at hl 3 rfl) ?_
        refine lv_bipush (v := iI (7)) hx hb dL_law_281 (by decide) ?_
        refine k_iaddN (a := i) (b := 7) hx hb dL_law_283 ?_
        refine k_sld hx hb hX hbl hbA hS (z := i + 7) (by omega) hL dL_law_284 ?_
        rw [← e7]
        refine k_if_eq (a := v7) (tgt := 292) hx hb (by omega) dL_law_285 (by decide) (fun c_285 => ?_) (fun c_285 => ?_)
        · refine lv_iconst (v := iI (0)) hx hb dL_law_292 rfl ?_
          have hP := toM_P hP
          have hD := toM_D hD
          refine k_rwVY (rest := [.int (iI ((((MD 0) : Nat) : Int)))]) (wr := [(a19, .inl (G.2 0, 256, .inl (fun iX => iI (z.2.1 iX)))), (a20, .inl (G.2 0, 256, .inl (fun iX => iI ((z.2.2.1 iX : Nat) : Int)))), (a21, .inl (G.2 1, 256, .inl (fun iX => iI (b2i (z.2.2.2.1 iX))))), (a22, .inl (G.2 0, 256, .inl (fun iX => iI ((z.2.2.2.2 iX : Nat) : Int)))), (a1, .inl (G.2 0, 5, .inl (fun iX => iI ((MR iX : Nat) : Int)))), (a2, .inl (G.2 0, 5, .inl (fun iX => iI ((MC iX : Nat) : Int)))), (a3, .inl (G.2 0, 20, .inl (fun iX => iI ((MW iX : Nat) : Int)))), (a14, .inl (G.2 0, 5, .inl (fun iX => iI ((MT iX : Nat) : Int)))), (a15, .inl (G.2 0, 20, .inl (fun iX => iI (DR iX)))), (a16, .inl (G.2 0, 20, .inl (fun iX => iI (DC iX)))), (a17, .inl (G.2 0, 5, .inl (fun iX => iI (CR iX)))), (a23, .inl (G.2 1, 4, .inl (fun iX => iI (b2i (KP iX)))))]) (w := [(m, .inr (5, [.int (iI (0)), .ref a1, .ref a2, .ref a3, .ref a4, .ref a5, .ref a6, .ref a7, .ref a8, .ref a9, .ref a10, .ref a11, .ref a12, .ref a13, .ref a14, .ref a15, .ref a16, .ref a17, .int (iI (b2i (z.1))), .ref a19, .ref a20, .ref a21, .ref a22, .ref a23])), (a4, .inl (G.2 0, 5, .inl (fun iX => iI ((MD iX : Nat) : Int)))), (a7, .inl (G.2 0, 150, .inl (fun iX => iI ((KD iX : Nat) : Int)))), (a8, .inl (G.2 0, 150, .inl (fun iX => iI (TP iX)))), (a9, .inl (G.2 0, 150, .inl (fun iX => iI (LF iX)))), (a10, .inl (G.2 0, 150, .inl (fun iX => iI ((HT iX : Nat) : Int)))), (a11, .inl (G.2 0, 150, .inl (fun iX => iI ((WD iX : Nat) : Int)))), (a12, .inl (G.2 0, 150, .inl (fun iX => iI ((CL iX : Nat) : Int)))), (a13, .inl (G.2 0, 150, .inl (fun iX => iI ((FN iX : Nat) : Int)))), (a6, .inl (G.2 0, 150, .inl (fun iX => iI ((OQ iX : Nat) : Int)))), (a5, .inl (G.2 0, 5, .inl (fun iX => iI ((MY iX : Nat) : Int))))]) (v := []) [.int (iI (((kd : Nat) : Int))), .int (iI (v2)), .int (iI (v3)), .int (iI (((ht : Nat) : Int))), .int (iI (((wt : Nat) : Int))), .int (iI (((cl : Nat) : Int))), .int (iI (0))] ⟨hx, hb, hml, hown, hts⟩ (c_X5_shape lM G H.size m a1 a2 a3 a4 a5 a6 a7 a8 a9 a10 a11 a12 a13 a14 a15 a16 a17 a19 a20 a21 a22 a23 z.1 kd v2 v3 ht wt cl false MD KD TP LF HT WD CL FN OQ MY (by omega) hv.2.1 (by omega) (by omega) (by omega) (by omega) (by omega)) (cwV 7 hts gL_law_X5_shape rfl rfl rfl (by decide +kernel) ⟨Nat.le_of_ble_eq_true rfl, Nat.le_of_ble_eq_true rfl⟩) hG (va_recv hG.1 hP (ci := 5) (q0 := 0) rfl rfl) hP hD hS hA [0, 8, 11, 12, 13, 14, 15, 16, 17, 10, 9] [1, 2, 3, 4, 5, 6, 7, 18, 19, 20, 21, 22] rfl rfl (by decide) (fun k q h => by simp at h) ap_nil rfl rfl hl.1 (Nat.le_of_ble_eq_true rfl) ⟨by show cells + 6 + 0 ≤ 600000; omega, by show slots + 83 + 0 ≤ 7302250; omega⟩ dL_law_293 (fun o9 w9 H locs h9 hP hD hS => ?_)
          obtain ⟨rfl, rfl⟩ := h9
          have hP : va_P G.1 vwCl (mX G m a1 a2 a3 a4 a5 a6 a7 a8 a9 a10 a11 a12 a13 a14 a15 a16 a17 a19 a20 a21 a22 a23 MR MC MW (va_up MD 0 (MD 0 + 1)) (va_up MY 0 (MY 0 + 1)) (va_up OQ (MY 0) (MD 0)) (va_up KD (MD 0) kd) (va_up TP (MD 0) v2) (va_up LF (MD 0) v3) (va_up HT (MD 0) ht) (va_up WD (MD 0) wt) (va_up CL (MD 0) cl) (va_up FN (MD 0) (if false = true then 1 else 0)) MT DR DC CR KP (false, z.2) ++ (cX G x t p im sa qo wo qi wi qs wd qp wp qh wh aw ad ac ao ax (MR 0) (MC 0) (MT 0) (CR 0) (va_up MY 0 (MY 0 + 1) 0) (va_up MD 0 (MD 0 + 1) 0) MW (va_up OQ (MY 0) (MD 0)) DC DR (va_up SH (MD 0) (some qn_244)) IM (kp s 0) ++ (va_pl (LP ++ [qn_244]) (va_up f qn_244 (shE (kd, v2, v3, ht, wt, cl, false))) ++ imL I))) H := re_P (ws' := mX G m a1 a2 a3 a4 a5 a6 a7 a8 a9 a10 a11 a12 a13 a14 a15 a16 a17 a19 a20 a21 a22 a23 MR MC MW (va_up MD 0 (MD 0 + 1)) (va_up MY 0 (MY 0 + 1)) (va_up OQ (MY 0) (MD 0)) (va_up KD (MD 0) kd) (va_up TP (MD 0) v2) (va_up LF (MD 0) v3) (va_up HT (MD 0) ht) (va_up WD (MD 0) wt) (va_up CL (MD 0) cl) (va_up FN (MD 0) (if false = true then 1 else 0)) MT DR DC CR KP (false, z.2)) hP [12, 0, 1, 2, 3, 4, 5, 6, 13, 22, 21, 14, 15, 16, 17, 18, 19, 20, 7, 8, 9, 10, 11] rfl
          have hD : va_D _ (mX G m a1 a2 a3 a4 a5 a6 a7 a8 a9 a10 a11 a12 a13 a14 a15 a16 a17 a19 a20 a21 a22 a23 MR MC MW (va_up MD 0 (MD 0 + 1)) (va_up MY 0 (MY 0 + 1)) (va_up OQ (MY 0) (MD 0)) (va_up KD (MD 0) kd) (va_up TP (MD 0) v2) (va_up LF (MD 0) v3) (va_up HT (MD 0) ht) (va_up WD (MD 0) wt) (va_up CL (MD 0) cl) (va_up FN (MD 0) (if false = true then 1 else 0)) MT DR DC CR KP (false, z.2) ++ (cX G x t p im sa qo wo qi wi qs wd qp wp qh wh aw ad ac ao ax (MR 0) (MC 0) (MT 0) (CR 0) (va_up MY 0 (MY 0 + 1) 0) (va_up MD 0 (MD 0 + 1) 0) MW (va_up OQ (MY 0) (MD 0)) DC DR (va_up SH (MD 0) (some qn_244)) IM (kp s 0) ++ (va_pl (LP ++ [qn_244]) (va_up f qn_244 (shE (kd, v2, v3, ht, wt, cl, false))) ++ imL I))) := re_D (ws' := mX G m a1 a2 a3 a4 a5 a6 a7 a8 a9 a10 a11 a12 a13 a14 a15 a16 a17 a19 a20 a21 a22 a23 MR MC MW (va_up MD 0 (MD 0 + 1)) (va_up MY 0 (MY 0 + 1)) (va_up OQ (MY 0) (MD 0)) (va_up KD (MD 0) kd) (va_up TP (MD 0) v2) (va_up LF (MD 0) v3) (va_up HT (MD 0) ht) (va_up WD (MD 0) wt) (va_up CL (MD 0) cl) (va_up FN (MD 0) (if false = true then 1 else 0)) MT DR DC CR KP (false, z.2)) hD [12, 0, 1, 2, 3, 4, 5, 6, 13, 22, 21, 14, 15, 16, 17, 18, 19, 20, 7, 8, 9, 10, 11] (by decide) rfl
          have hP := toC_P hP
          have hD := toC_D hD
          refine k_same (a := (((MD 0) : Nat) : Int)) (b := ((MD 0 : Nat) : Int)) (tgt := 885) hx hb (rfl) dL_law_296 (by decide) ?_
          exact next H locs ls ⟨t, p, im, sa, qo, wo, qi, wi, qs, wd, qp, wp, qh, wh, aw, ad, ac, ao, ax, a1, a2, a3, a4, a5, a6, a7, a8, a9, a10, a11, a12, a13, a14, a15, a16, a17, a19, a20, a21, a22, a23, LP ++ [qn_244], va_up f qn_244 (shE (kd, v2, v3, ht, wt, cl, false)), I, IM, va_up SH (MD 0) (some qn_244), kp s 0, (false, z.2), MR, MC, MW, va_up MD 0 (MD 0 + 1), va_up MY 0 (MY 0 + 1), va_up OQ (MY 0) (MD 0), va_up KD (MD 0) kd, va_up TP (MD 0) v2, va_up LF (MD 0) v3, va_up HT (MD 0) ht, va_up WD (MD 0) wt, va_up CL (MD 0) cl, va_up FN (MD 0) (if false = true then 1 else 0), MT, DR, DC, CR, KP, hP, hD, ⟨⟨rMR, rMC, rMW, (up_all (P := fun y => y < 30) (by omega) rOQ), (up_all (P := fun y => y ≤ 3) (by omega) rKD), (up_all (P := fun y => -16 ≤ y ∧ y ≤ 31) hv.2.1.1 rTP), (up_all (P := fun y => -16 ≤ y ∧ y ≤ 31) hv.2.1.2 rLF), (up_all (P := fun y => y ≤ 32) (by omega) rHT), (up_all (P := fun y => y ≤ 32) (by omega) rWD), (up_all (P := fun y => y < 16) (by omega) rCL), (up_all (P := fun y => y ≤ 1) (by decide) rFN), rMT, rDR, rDC, rCR⟩, shR_add hSh (by omega) hqn (show kd ≤ 3 ∧ (-16 ≤ v2 ∧ v2 ≤ 31) ∧ (-16 ≤ v3 ∧ v3 ≤ 31) ∧ (1 ≤ ht ∧ ht ≤ 32) ∧ (1 ≤ wt ∧ wt ≤ 32) ∧ cl < 16 from by omega) sv_add_at (fun n h => sv_add_ne h), wV_0 hW.1, zV_f hZ.1, (fun k hk => imR_mono (hIm k hk) (pool_push hqn) (fun _ _ => rfl) (fun _ _ => rfl) (fun _ _ => rfl) (sl_up (b := 1) (by omega)) (sl_up (b := 1) (by omega)) (sl_up (b := 30) (by omega)) (sl_up (b := 30) (by omega)) (sl_up (b := 30) (by omega)) (sl_up (b := 30) (by omega)) (sl_up (b := 30) (by omega)) (sl_up (b := 30) (by omega)) (sl_up (b := 30) (by omega)) (sl_up (b := 30) (by omega)) (fun _ _ => rfl) (fun _ _ => rfl) (fun _ _ => rfl) (fun _ _ => rfl))⟩⟩ hS (lv_sub hl [0, 1, 2, 3] rfl)
        · exact absurd c_236 c_285
      · refine lv_iconst (v := iI (1)) hx hb dL_law_239 rfl ?_
        refine lv_goto (tgt := 244) hx hb dL_law_240 (by decide) ?_
        refine k_rwVY (rest := []) (wr := [(x, .inr (4, [.ref t, .ref p, .ref im])), (aw, .inl (G.2 0, 4, .inl (fun iX => iI ((MW iX : Nat) : Int)))), (ad, .inl (G.2 0, 4, .inl (fun iX => iI (DR iX)))), (ac, .inl (G.2 0, 4, .inl (fun iX => iI (DC iX)))), (sa, .inl (G.2 0, 256, .inl (fun iX => iI (s.1.1 iX)))), (wi, .inl (G.2 0, 4 * 16, .inl (fun iX => iI ((s.1.2.1 iX : Nat) : Int)))), (wo, .inl (G.2 0, 16 * 16, .inl (fun iX => iI ((s.1.2.2.1 iX : Nat) : Int)))), (wd, .inl (G.2 0, 1 * 16, .inl (fun iX => iI ((s.1.2.2.2 iX : Nat) : Int)))), (wp, .inl (G.2 0, 4 * 16, .inl (fun iX => iI ((s.2.1 iX : Nat) : Int)))), (wh, .inl (G.2 0, 4 * 16, .inl (fun iX => iI ((s.2.2.1 iX : Nat) : Int)))), (qo, .inr (0, [.int (iI (16)), .ref wo])), (qi, .inr (0, [.int (iI (4)), .ref wi])), (qs, .inr (0, [.int (iI (1)), .ref wd])), (qp, .inr (0, [.int (iI (4)), .ref wp])), (qh, .inr (0, [.int (iI (4)), .ref wh])), (im, .inl (G.2 3, 4, .inr (.inr (.inr (.inr IM)))))]) (w := [(t, .inr (3, [.int (iI ((((MR 0) : Nat) : Int))), .int (iI ((((MC 0) : Nat) : Int))), .int (iI ((((MT 0) : Nat) : Int))), .int (iI ((CR 0))), .int (iI ((((MY 0) : Nat) : Int))), .int (iI ((((MD 0) : Nat) : Int))), .ref aw, .ref ad, .ref ac, .ref ao, .ref ax])), (ao, .inl (G.2 0, 30, .inl (fun iX => iI ((OQ iX : Nat) : Int)))), (ax, .inl (G.2 2, 30, .inr (.inr (.inr (.inr SH))))), (p, .inr (1, [.ref sa, .ref qo, .ref qi, .ref qs, .ref qp, .ref qh, .int (iI ((((s.2.2.2) : Nat) : Int)))]))]) (v := [(x, .inr (4, [.ref t, .ref p, .ref im]))]) [.int (iI (((kd : Nat) : Int))), .int (iI (v2)), .int (iI (v3)), .int (iI (((ht : Nat) : Int))), .int (iI (((wt : Nat) : Int))), .int (iI (((cl : Nat) : Int))), .int (iI (1))] ⟨hx, hb, hml, hown, hts⟩ (c_X4_shape lM G H.size x im t (MR 0) (MC 0) (MT 0) (CR 0) (MY 0) (MD 0) aw ad ac ao ax p sa qo qi qs qp qh s.2.2.2 OQ SH kd v2 v3 ht wt cl true (by omega) hv.2.1 (by omega) (by omega) (by omega) (by omega) (by omega) (by omega)) (cwV 7 hts gL_law_X4_shape rfl rfl rfl (by decide +kernel) ⟨Nat.le_of_ble_eq_true rfl, Nat.le_of_ble_eq_true rfl⟩) hG (va_recv hG.1 hP (ci := 4) (q0 := 0) rfl rfl) hP hD hS hA [1, 5, 6, 7] [0, 2, 3, 4, 8, 9, 10, 11, 12, 13, 14, 15, 16, 17, 18, 19] rfl rfl (by decide) (rd0 (vx := [(x, .inr (4, [.ref t, .ref p, .ref im]))]) hP [0] rfl) (ap0 (vx := [(x, .inr (4, [.ref t, .ref p, .ref im]))]) hD [1, 5, 6, 7] [0] rfl rfl (by decide)) rfl rfl hl.1 (Nat.le_of_ble_eq_true rfl) ⟨by show cells + 1 ≤ 600000; omega, by show slots + 7 ≤ 7302250; omega⟩ dL_law_244 (fun o9 w9 H locs h9 hP hD hS => ?_)
        obtain ⟨qn_244, rfl, rfl⟩ := h9
        have hP : va_P G.1 vwCl ((cX G x t p im sa qo wo qi wi qs wd qp wp qh wh aw ad ac ao ax (MR 0) (MC 0) (MT 0) (CR 0) (va_up MY 0 (MY 0 + 1) 0) (va_up MD 0 (MD 0 + 1) 0) MW (va_up OQ (MY 0) (MD 0)) DC DR (va_up SH (MD 0) (some qn_244)) IM (kp s 0) ++ [(qn_244, shE (kd, v2, v3, ht, wt, cl, true))]) ++ (va_pl LP f ++ (imL I ++ mX G m a1 a2 a3 a4 a5 a6 a7 a8 a9 a10 a11 a12 a13 a14 a15 a16 a17 a19 a20 a21 a22 a23 MR MC MW MD MY OQ KD TP LF HT WD CL FN MT DR DC CR KP z))) H := re_P (ws' := (cX G x t p im sa qo wo qi wi qs wd qp wp qh wh aw ad ac ao ax (MR 0) (MC 0) (MT 0) (CR 0) (va_up MY 0 (MY 0 + 1) 0) (va_up MD 0 (MD 0 + 1) 0) MW (va_up OQ (MY 0) (MD 0)) DC DR (va_up SH (MD 0) (some qn_244)) IM (kp s 0) ++ [(qn_244, shE (kd, v2, v3, ht, wt, cl, true))])) hP [0, 16, 1, 2, 3, 17, 18, 19, 4, 5, 6, 7, 8, 9, 10, 11, 12, 13, 14, 15, 20] rfl
        have hD : va_D _ ((cX G x t p im sa qo wo qi wi qs wd qp wp qh wh aw ad ac ao ax (MR 0) (MC 0) (MT 0) (CR 0) (va_up MY 0 (MY 0 + 1) 0) (va_up MD 0 (MD 0 + 1) 0) MW (va_up OQ (MY 0) (MD 0)) DC DR (va_up SH (MD 0) (some qn_244)) IM (kp s 0) ++ [(qn_244, shE (kd, v2, v3, ht, wt, cl, true))]) ++ (va_pl LP f ++ (imL I ++ mX G m a1 a2 a3 a4 a5 a6 a7 a8 a9 a10 a11 a12 a13 a14 a15 a16 a17 a19 a20 a21 a22 a23 MR MC MW MD MY OQ KD TP LF HT WD CL FN MT DR DC CR KP z))) := re_D (ws' := (cX G x t p im sa qo wo qi wi qs wd qp wp qh wh aw ad ac ao ax (MR 0) (MC 0) (MT 0) (CR 0) (va_up MY 0 (MY 0 + 1) 0) (va_up MD 0 (MD 0 + 1) 0) MW (va_up OQ (MY 0) (MD 0)) DC DR (va_up SH (MD 0) (some qn_244)) IM (kp s 0) ++ [(qn_244, shE (kd, v2, v3, ht, wt, cl, true))])) hD [0, 16, 1, 2, 3, 17, 18, 19, 4, 5, 6, 7, 8, 9, 10, 11, 12, 13, 14, 15, 20] (by decide) rfl
        obtain ⟨hqn, hP, hD⟩ := pl_push (q := qn_244) (e := shE (kd, v2, v3, ht, wt, cl, true)) hP hD
        refine W.widen (k := cells + 6) (n := slots + 83) (by show cells + 1 ≤ cells + 6; omega) (by show slots + 7 ≤ slots + 83; omega) ?_
        refine lv_aload_n hx hb dL_law_247 rfl (lv_at hl 2 rfl) ?_
        refine lv_aload_n hx hb dL_law_248 rfl (lv_at hl 0 rfl) ?_
        refine lv_iload_n hx hb dL_law_249 rfl (lv_at hl 3 rfl) ?_
        refine lv_iconst (v := iI (1)) hx hb dL_law_250 rfl ?_
        refine k_iaddN (a := i) (b := 1) hx hb dL_law_251 ?_
        refine k_sld hx hb hX hbl hbA hS (z := i + 1) (by omega) hL dL_law_252 ?_
        rw [← e1]
        refine lv_aload_n hx hb dL_law_253 rfl (lv_at hl 0 rfl) ?_
        refine lv_iload_n hx hb dL_law_254 rfl (lv_at hl 3 rfl) ?_
        refine lv_iconst (v := iI (2)) hx hb dL_law_255 rfl ?_
        refine k_iaddN (a := i) (b := 2) hx hb dL_law_256 ?_
        refine k_sld hx hb hX hbl hbA hS (z := i + 2) (by omega) hL dL_law_257 ?_
        rw [← e2]
        refine lv_aload_n hx hb dL_law_258 rfl (lv_at hl 0 rfl) ?_
        refine lv_iload_n hx hb dL_law_259 rfl (lv_at hl 3 rfl) ?_
        refine lv_iconst (v := iI (3)) hx hb dL_law_260 rfl ?_
        refine k_iaddN (a := i) (b := 3) hx hb dL_law_261 ?_
        refine k_sld hx hb hX hbl hbA hS (z := i + 3) (by omega) hL dL_law_262 ?_
        rw [← e3]
        refine lv_aload_n hx hb dL_law_263 rfl (lv_at hl 0 rfl) ?_
        refine lv_iload_n hx hb dL_law_264 rfl (lv_at hl 3 rfl) ?_
        refine lv_iconst (v := iI (4)) hx hb dL_law_265 rfl ?_
        refine k_iaddN (a := i) (b := 4) hx hb dL_law_266 ?_
        refine k_sld hx hb hX hbl hbA hS (z := i + 4) (by omega) hL dL_law_267 ?_
        rw [← e4]
        refine lv_aload_n hx hb dL_law_268 rfl (lv_at hl 0 rfl) ?_
        refine lv_iload_n hx hb dL_law_269 rfl (lv_at hl 3 rfl) ?_
        refine lv_iconst (v := iI (5)) hx hb dL_law_270 rfl ?_
        refine k_iaddN (a := i) (b := 5) hx hb dL_law_271 ?_
        refine k_sld hx hb hX hbl hbA hS (z := i + 5) (by omega) hL dL_law_272 ?_
        rw [← e5]
        refine lv_aload_n hx hb dL_law_273 rfl (lv_at hl 0 rfl) ?_
        refine lv_iload_n hx hb dL_law_274 rfl (lv_at hl 3 rfl) ?_
        refine lv_bipush (v := iI (6)) hx hb dL_law_275 (by decide) ?_
        refine k_iaddN (a := i) (b := 6) hx hb dL_law_277 ?_
        refine k_sld hx hb hX hbl hbA hS (z := i + 6) (by omega) hL dL_law_278 ?_
        rw [← e6]
        refine lv_aload_n hx hb dL_law_279 rfl (lv_at hl 0 rfl) ?_
        refine lv_iload_n hx hb dL_law_280 rfl (lv_at hl 3 rfl) ?_
        refine lv_bipush (v := iI (7)) hx hb dL_law_281 (by decide) ?_
        refine k_iaddN (a := i) (b := 7) hx hb dL_law_283 ?_
        refine k_sld hx hb hX hbl hbA hS (z := i + 7) (by omega) hL dL_law_284 ?_
        rw [← e7]
        refine k_if_eq (a := v7) (tgt := 292) hx hb (by omega) dL_law_285 (by decide) (fun c_285 => ?_) (fun c_285 => ?_)
        · exact absurd c_285 c_236
        · refine lv_iconst (v := iI (1)) hx hb dL_law_288 rfl ?_
          refine lv_goto (tgt := 293) hx hb dL_law_289 (by decide) ?_
          have hP := toM_P hP
          have hD := toM_D hD
          refine k_rwVY (rest := [.int (iI ((((MD 0) : Nat) : Int)))]) (wr := [(a19, .inl (G.2 0, 256, .inl (fun iX => iI (z.2.1 iX)))), (a20, .inl (G.2 0, 256, .inl (fun iX => iI ((z.2.2.1 iX : Nat) : Int)))), (a21, .inl (G.2 1, 256, .inl (fun iX => iI (b2i (z.2.2.2.1 iX))))), (a22, .inl (G.2 0, 256, .inl (fun iX => iI ((z.2.2.2.2 iX : Nat) : Int)))), (a1, .inl (G.2 0, 5, .inl (fun iX => iI ((MR iX : Nat) : Int)))), (a2, .inl (G.2 0, 5, .inl (fun iX => iI ((MC iX : Nat) : Int)))), (a3, .inl (G.2 0, 20, .inl (fun iX => iI ((MW iX : Nat) : Int)))), (a14, .inl (G.2 0, 5, .inl (fun iX => iI ((MT iX : Nat) : Int)))), (a15, .inl (G.2 0, 20, .inl (fun iX => iI (DR iX)))), (a16, .inl (G.2 0, 20, .inl (fun iX => iI (DC iX)))), (a17, .inl (G.2 0, 5, .inl (fun iX => iI (CR iX)))), (a23, .inl (G.2 1, 4, .inl (fun iX => iI (b2i (KP iX)))))]) (w := [(m, .inr (5, [.int (iI (0)), .ref a1, .ref a2, .ref a3, .ref a4, .ref a5, .ref a6, .ref a7, .ref a8, .ref a9, .ref a10, .ref a11, .ref a12, .ref a13, .ref a14, .ref a15, .ref a16, .ref a17, .int (iI (b2i (z.1))), .ref a19, .ref a20, .ref a21, .ref a22, .ref a23])), (a4, .inl (G.2 0, 5, .inl (fun iX => iI ((MD iX : Nat) : Int)))), (a7, .inl (G.2 0, 150, .inl (fun iX => iI ((KD iX : Nat) : Int)))), (a8, .inl (G.2 0, 150, .inl (fun iX => iI (TP iX)))), (a9, .inl (G.2 0, 150, .inl (fun iX => iI (LF iX)))), (a10, .inl (G.2 0, 150, .inl (fun iX => iI ((HT iX : Nat) : Int)))), (a11, .inl (G.2 0, 150, .inl (fun iX => iI ((WD iX : Nat) : Int)))), (a12, .inl (G.2 0, 150, .inl (fun iX => iI ((CL iX : Nat) : Int)))), (a13, .inl (G.2 0, 150, .inl (fun iX => iI ((FN iX : Nat) : Int)))), (a6, .inl (G.2 0, 150, .inl (fun iX => iI ((OQ iX : Nat) : Int)))), (a5, .inl (G.2 0, 5, .inl (fun iX => iI ((MY iX : Nat) : Int))))]) (v := []) [.int (iI (((kd : Nat) : Int))), .int (iI (v2)), .int (iI (v3)), .int (iI (((ht : Nat) : Int))), .int (iI (((wt : Nat) : Int))), .int (iI (((cl : Nat) : Int))), .int (iI (1))] ⟨hx, hb, hml, hown, hts⟩ (c_X5_shape lM G H.size m a1 a2 a3 a4 a5 a6 a7 a8 a9 a10 a11 a12 a13 a14 a15 a16 a17 a19 a20 a21 a22 a23 z.1 kd v2 v3 ht wt cl true MD KD TP LF HT WD CL FN OQ MY (by omega) hv.2.1 (by omega) (by omega) (by omega) (by omega) (by omega)) (cwV 7 hts gL_law_X5_shape rfl rfl rfl (by decide +kernel) ⟨Nat.le_of_ble_eq_true rfl, Nat.le_of_ble_eq_true rfl⟩) hG (va_recv hG.1 hP (ci := 5) (q0 := 0) rfl rfl) hP hD hS hA [0, 8, 11, 12, 13, 14, 15, 16, 17, 10, 9] [1, 2, 3, 4, 5, 6, 7, 18, 19, 20, 21, 22] rfl rfl (by decide) (fun k q h => by simp at h) ap_nil rfl rfl hl.1 (Nat.le_of_ble_eq_true rfl) ⟨by show cells + 6 + 0 ≤ 600000; omega, by show slots + 83 + 0 ≤ 7302250; omega⟩ dL_law_293 (fun o9 w9 H locs h9 hP hD hS => ?_)
          obtain ⟨rfl, rfl⟩ := h9
          have hP : va_P G.1 vwCl (mX G m a1 a2 a3 a4 a5 a6 a7 a8 a9 a10 a11 a12 a13 a14 a15 a16 a17 a19 a20 a21 a22 a23 MR MC MW (va_up MD 0 (MD 0 + 1)) (va_up MY 0 (MY 0 + 1)) (va_up OQ (MY 0) (MD 0)) (va_up KD (MD 0) kd) (va_up TP (MD 0) v2) (va_up LF (MD 0) v3) (va_up HT (MD 0) ht) (va_up WD (MD 0) wt) (va_up CL (MD 0) cl) (va_up FN (MD 0) (if true = true then 1 else 0)) MT DR DC CR KP (false, z.2) ++ (cX G x t p im sa qo wo qi wi qs wd qp wp qh wh aw ad ac ao ax (MR 0) (MC 0) (MT 0) (CR 0) (va_up MY 0 (MY 0 + 1) 0) (va_up MD 0 (MD 0 + 1) 0) MW (va_up OQ (MY 0) (MD 0)) DC DR (va_up SH (MD 0) (some qn_244)) IM (kp s 0) ++ (va_pl (LP ++ [qn_244]) (va_up f qn_244 (shE (kd, v2, v3, ht, wt, cl, true))) ++ imL I))) H := re_P (ws' := mX G m a1 a2 a3 a4 a5 a6 a7 a8 a9 a10 a11 a12 a13 a14 a15 a16 a17 a19 a20 a21 a22 a23 MR MC MW (va_up MD 0 (MD 0 + 1)) (va_up MY 0 (MY 0 + 1)) (va_up OQ (MY 0) (MD 0)) (va_up KD (MD 0) kd) (va_up TP (MD 0) v2) (va_up LF (MD 0) v3) (va_up HT (MD 0) ht) (va_up WD (MD 0) wt) (va_up CL (MD 0) cl) (va_up FN (MD 0) (if true = true then 1 else 0)) MT DR DC CR KP (false, z.2)) hP [12, 0, 1, 2, 3, 4, 5, 6, 13, 22, 21, 14, 15, 16, 17, 18, 19, 20, 7, 8, 9, 10, 11] rfl
          have hD : va_D _ (mX G m a1 a2 a3 a4 a5 a6 a7 a8 a9 a10 a11 a12 a13 a14 a15 a16 a17 a19 a20 a21 a22 a23 MR MC MW (va_up MD 0 (MD 0 + 1)) (va_up MY 0 (MY 0 + 1)) (va_up OQ (MY 0) (MD 0)) (va_up KD (MD 0) kd) (va_up TP (MD 0) v2) (va_up LF (MD 0) v3) (va_up HT (MD 0) ht) (va_up WD (MD 0) wt) (va_up CL (MD 0) cl) (va_up FN (MD 0) (if true = true then 1 else 0)) MT DR DC CR KP (false, z.2) ++ (cX G x t p im sa qo wo qi wi qs wd qp wp qh wh aw ad ac ao ax (MR 0) (MC 0) (MT 0) (CR 0) (va_up MY 0 (MY 0 + 1) 0) (va_up MD 0 (MD 0 + 1) 0) MW (va_up OQ (MY 0) (MD 0)) DC DR (va_up SH (MD 0) (some qn_244)) IM (kp s 0) ++ (va_pl (LP ++ [qn_244]) (va_up f qn_244 (shE (kd, v2, v3, ht, wt, cl, true))) ++ imL I))) := re_D (ws' := mX G m a1 a2 a3 a4 a5 a6 a7 a8 a9 a10 a11 a12 a13 a14 a15 a16 a17 a19 a20 a21 a22 a23 MR MC MW (va_up MD 0 (MD 0 + 1)) (va_up MY 0 (MY 0 + 1)) (va_up OQ (MY 0) (MD 0)) (va_up KD (MD 0) kd) (va_up TP (MD 0) v2) (va_up LF (MD 0) v3) (va_up HT (MD 0) ht) (va_up WD (MD 0) wt) (va_up CL (MD 0) cl) (va_up FN (MD 0) (if true = true then 1 else 0)) MT DR DC CR KP (false, z.2)) hD [12, 0, 1, 2, 3, 4, 5, 6, 13, 22, 21, 14, 15, 16, 17, 18, 19, 20, 7, 8, 9, 10, 11] (by decide) rfl
          have hP := toC_P hP
          have hD := toC_D hD
          refine k_same (a := (((MD 0) : Nat) : Int)) (b := ((MD 0 : Nat) : Int)) (tgt := 885) hx hb (rfl) dL_law_296 (by decide) ?_
          exact next H locs ls ⟨t, p, im, sa, qo, wo, qi, wi, qs, wd, qp, wp, qh, wh, aw, ad, ac, ao, ax, a1, a2, a3, a4, a5, a6, a7, a8, a9, a10, a11, a12, a13, a14, a15, a16, a17, a19, a20, a21, a22, a23, LP ++ [qn_244], va_up f qn_244 (shE (kd, v2, v3, ht, wt, cl, true)), I, IM, va_up SH (MD 0) (some qn_244), kp s 0, (false, z.2), MR, MC, MW, va_up MD 0 (MD 0 + 1), va_up MY 0 (MY 0 + 1), va_up OQ (MY 0) (MD 0), va_up KD (MD 0) kd, va_up TP (MD 0) v2, va_up LF (MD 0) v3, va_up HT (MD 0) ht, va_up WD (MD 0) wt, va_up CL (MD 0) cl, va_up FN (MD 0) (if true = true then 1 else 0), MT, DR, DC, CR, KP, hP, hD, ⟨⟨rMR, rMC, rMW, (up_all (P := fun y => y < 30) (by omega) rOQ), (up_all (P := fun y => y ≤ 3) (by omega) rKD), (up_all (P := fun y => -16 ≤ y ∧ y ≤ 31) hv.2.1.1 rTP), (up_all (P := fun y => -16 ≤ y ∧ y ≤ 31) hv.2.1.2 rLF), (up_all (P := fun y => y ≤ 32) (by omega) rHT), (up_all (P := fun y => y ≤ 32) (by omega) rWD), (up_all (P := fun y => y < 16) (by omega) rCL), (up_all (P := fun y => y ≤ 1) (by decide) rFN), rMT, rDR, rDC, rCR⟩, shR_add hSh (by omega) hqn (show kd ≤ 3 ∧ (-16 ≤ v2 ∧ v2 ≤ 31) ∧ (-16 ≤ v3 ∧ v3 ≤ 31) ∧ (1 ≤ ht ∧ ht ≤ 32) ∧ (1 ≤ wt ∧ wt ≤ 32) ∧ cl < 16 from by omega) sv_add_at (fun n h => sv_add_ne h), wV_0 hW.1, zV_f hZ.1, (fun k hk => imR_mono (hIm k hk) (pool_push hqn) (fun _ _ => rfl) (fun _ _ => rfl) (fun _ _ => rfl) (sl_up (b := 1) (by omega)) (sl_up (b := 1) (by omega)) (sl_up (b := 30) (by omega)) (sl_up (b := 30) (by omega)) (sl_up (b := 30) (by omega)) (sl_up (b := 30) (by omega)) (sl_up (b := 30) (by omega)) (sl_up (b := 30) (by omega)) (sl_up (b := 30) (by omega)) (sl_up (b := 30) (by omega)) (fun _ _ => rfl) (fun _ _ => rfl) (fun _ _ => rfl) (fun _ _ => rfl))⟩⟩ hS (lv_sub hl [0, 1, 2, 3] rfl)
    · refine lv_aload_n hx hb dL_law_198 rfl (lv_at hl 1 rfl) ?_
      refine lv_aload_n hx hb dL_law_199 rfl (lv_at hl 0 rfl) ?_
      refine lv_iload_n hx hb dL_law_200 rfl (lv_at hl 3 rfl) ?_
      refine lv_iconst (v := iI (1)) hx hb dL_law_201 rfl ?_
      refine k_iaddN (a := i) (b := 1) hx hb dL_law_202 ?_
      refine k_sld hx hb hX hbl hbA hS (z := i + 1) (by omega) hL dL_law_203 ?_
      rw [← e1]
      refine lv_aload_n hx hb dL_law_204 rfl (lv_at hl 0 rfl) ?_
      refine lv_iload_n hx hb dL_law_205 rfl (lv_at hl 3 rfl) ?_
      refine lv_iconst (v := iI (2)) hx hb dL_law_206 rfl ?_
      refine k_iaddN (a := i) (b := 2) hx hb dL_law_207 ?_
      refine k_sld hx hb hX hbl hbA hS (z := i + 2) (by omega) hL dL_law_208 ?_
      rw [← e2]
      refine lv_aload_n hx hb dL_law_209 rfl (lv_at hl 0 rfl) ?_
      refine lv_iload_n hx hb dL_law_210 rfl (lv_at hl 3 rfl) ?_
      refine lv_iconst (v := iI (3)) hx hb dL_law_211 rfl ?_
      refine k_iaddN (a := i) (b := 3) hx hb dL_law_212 ?_
      refine k_sld hx hb hX hbl hbA hS (z := i + 3) (by omega) hL dL_law_213 ?_
      rw [← e3]
      refine lv_aload_n hx hb dL_law_214 rfl (lv_at hl 0 rfl) ?_
      refine lv_iload_n hx hb dL_law_215 rfl (lv_at hl 3 rfl) ?_
      refine lv_iconst (v := iI (4)) hx hb dL_law_216 rfl ?_
      refine k_iaddN (a := i) (b := 4) hx hb dL_law_217 ?_
      refine k_sld hx hb hX hbl hbA hS (z := i + 4) (by omega) hL dL_law_218 ?_
      rw [← e4]
      refine lv_aload_n hx hb dL_law_219 rfl (lv_at hl 0 rfl) ?_
      refine lv_iload_n hx hb dL_law_220 rfl (lv_at hl 3 rfl) ?_
      refine lv_iconst (v := iI (5)) hx hb dL_law_221 rfl ?_
      refine k_iaddN (a := i) (b := 5) hx hb dL_law_222 ?_
      refine k_sld hx hb hX hbl hbA hS (z := i + 5) (by omega) hL dL_law_223 ?_
      rw [← e5]
      refine lv_aload_n hx hb dL_law_224 rfl (lv_at hl 0 rfl) ?_
      refine lv_iload_n hx hb dL_law_225 rfl (lv_at hl 3 rfl) ?_
      refine lv_bipush (v := iI (6)) hx hb dL_law_226 (by decide) ?_
      refine k_iaddN (a := i) (b := 6) hx hb dL_law_228 ?_
      refine k_sld hx hb hX hbl hbA hS (z := i + 6) (by omega) hL dL_law_229 ?_
      rw [← e6]
      refine lv_aload_n hx hb dL_law_230 rfl (lv_at hl 0 rfl) ?_
      refine lv_iload_n hx hb dL_law_231 rfl (lv_at hl 3 rfl) ?_
      refine lv_bipush (v := iI (7)) hx hb dL_law_232 (by decide) ?_
      refine k_iaddN (a := i) (b := 7) hx hb dL_law_234 ?_
      refine k_sld hx hb hX hbl hbA hS (z := i + 7) (by omega) hL dL_law_235 ?_
      rw [← e7]
      refine k_if_eq (a := v7) (tgt := 243) hx hb (by omega) dL_law_236 (by decide) (fun c_236 => ?_) (fun c_236 => ?_)
      · refine lv_iconst (v := iI (0)) hx hb dL_law_243 rfl ?_
        refine k_rwVY (rest := []) (wr := [(x, .inr (4, [.ref t, .ref p, .ref im])), (aw, .inl (G.2 0, 4, .inl (fun iX => iI ((MW iX : Nat) : Int)))), (ad, .inl (G.2 0, 4, .inl (fun iX => iI (DR iX)))), (ac, .inl (G.2 0, 4, .inl (fun iX => iI (DC iX)))), (ao, .inl (G.2 0, 30, .inl (fun iX => iI ((OQ iX : Nat) : Int)))), (ax, .inl (G.2 2, 30, .inr (.inr (.inr (.inr SH))))), (sa, .inl (G.2 0, 256, .inl (fun iX => iI (s.1.1 iX)))), (wi, .inl (G.2 0, 4 * 16, .inl (fun iX => iI ((s.1.2.1 iX : Nat) : Int)))), (wo, .inl (G.2 0, 16 * 16, .inl (fun iX => iI ((s.1.2.2.1 iX : Nat) : Int)))), (wd, .inl (G.2 0, 1 * 16, .inl (fun iX => iI ((s.1.2.2.2 iX : Nat) : Int)))), (wp, .inl (G.2 0, 4 * 16, .inl (fun iX => iI ((s.2.1 iX : Nat) : Int)))), (wh, .inl (G.2 0, 4 * 16, .inl (fun iX => iI ((s.2.2.1 iX : Nat) : Int)))), (qo, .inr (0, [.int (iI (16)), .ref wo])), (qi, .inr (0, [.int (iI (4)), .ref wi])), (qs, .inr (0, [.int (iI (1)), .ref wd])), (qp, .inr (0, [.int (iI (4)), .ref wp])), (qh, .inr (0, [.int (iI (4)), .ref wh])), (im, .inl (G.2 3, 4, .inr (.inr (.inr (.inr IM)))))]) (w := [(t, .inr (3, [.int (iI ((((MR 0) : Nat) : Int))), .int (iI ((((MC 0) : Nat) : Int))), .int (iI ((((MT 0) : Nat) : Int))), .int (iI ((CR 0))), .int (iI ((((MY 0) : Nat) : Int))), .int (iI ((((MD 0) : Nat) : Int))), .ref aw, .ref ad, .ref ac, .ref ao, .ref ax])), (p, .inr (1, [.ref sa, .ref qo, .ref qi, .ref qs, .ref qp, .ref qh, .int (iI ((((s.2.2.2) : Nat) : Int)))]))]) (v := [(x, .inr (4, [.ref t, .ref p, .ref im]))]) [.int (iI (((kd : Nat) : Int))), .int (iI (v2)), .int (iI (v3)), .int (iI (((ht : Nat) : Int))), .int (iI (((wt : Nat) : Int))), .int (iI (((cl : Nat) : Int))), .int (iI (0))] ⟨hx, hb, hml, hown, hts⟩ (c_X4_shape_F lM G H.size x im t (MR 0) (MC 0) (MT 0) (CR 0) (MY 0) (MD 0) aw ad ac ao ax p sa qo qi qs qp qh s.2.2.2 kd v2 v3 ht wt cl false (by omega) hv.2.1 (by omega) (by omega) (by omega) (by omega) (by omega)) (cwV 7 hts gL_law_X4_shape rfl rfl rfl (by decide +kernel) ⟨Nat.le_of_ble_eq_true rfl, Nat.le_of_ble_eq_true rfl⟩) hG (va_recv hG.1 hP (ci := 4) (q0 := 0) rfl rfl) hP hD hS hA [1, 7] [0, 2, 3, 4, 5, 6, 8, 9, 10, 11, 12, 13, 14, 15, 16, 17, 18, 19] rfl rfl (by decide) (rd0 (vx := [(x, .inr (4, [.ref t, .ref p, .ref im]))]) hP [0] rfl) (ap0 (vx := [(x, .inr (4, [.ref t, .ref p, .ref im]))]) hD [1, 7] [0] rfl rfl (by decide)) rfl rfl hl.1 (Nat.le_of_ble_eq_true rfl) ⟨by show cells + 1 ≤ 600000; omega, by show slots + 7 ≤ 7302250; omega⟩ dL_law_244 (fun o9 w9 H locs h9 hP hD hS => ?_)
        obtain ⟨qn_244, rfl, rfl⟩ := h9
        have hP : va_P G.1 vwCl ((cX G x t p im sa qo wo qi wi qs wd qp wp qh wh aw ad ac ao ax (MR 0) (MC 0) (MT 0) (CR 0) (MY 0) (MD 0) MW OQ DC DR SH IM (kp s 0) ++ [(qn_244, shE (kd, v2, v3, ht, wt, cl, false))]) ++ (va_pl LP f ++ (imL I ++ mX G m a1 a2 a3 a4 a5 a6 a7 a8 a9 a10 a11 a12 a13 a14 a15 a16 a17 a19 a20 a21 a22 a23 MR MC MW MD MY OQ KD TP LF HT WD CL FN MT DR DC CR KP z))) H := re_P (ws' := (cX G x t p im sa qo wo qi wi qs wd qp wp qh wh aw ad ac ao ax (MR 0) (MC 0) (MT 0) (CR 0) (MY 0) (MD 0) MW OQ DC DR SH IM (kp s 0) ++ [(qn_244, shE (kd, v2, v3, ht, wt, cl, false))])) hP [0, 18, 1, 2, 3, 4, 5, 19, 6, 7, 8, 9, 10, 11, 12, 13, 14, 15, 16, 17, 20] rfl
        have hD : va_D _ ((cX G x t p im sa qo wo qi wi qs wd qp wp qh wh aw ad ac ao ax (MR 0) (MC 0) (MT 0) (CR 0) (MY 0) (MD 0) MW OQ DC DR SH IM (kp s 0) ++ [(qn_244, shE (kd, v2, v3, ht, wt, cl, false))]) ++ (va_pl LP f ++ (imL I ++ mX G m a1 a2 a3 a4 a5 a6 a7 a8 a9 a10 a11 a12 a13 a14 a15 a16 a17 a19 a20 a21 a22 a23 MR MC MW MD MY OQ KD TP LF HT WD CL FN MT DR DC CR KP z))) := re_D (ws' := (cX G x t p im sa qo wo qi wi qs wd qp wp qh wh aw ad ac ao ax (MR 0) (MC 0) (MT 0) (CR 0) (MY 0) (MD 0) MW OQ DC DR SH IM (kp s 0) ++ [(qn_244, shE (kd, v2, v3, ht, wt, cl, false))])) hD [0, 18, 1, 2, 3, 4, 5, 19, 6, 7, 8, 9, 10, 11, 12, 13, 14, 15, 16, 17, 20] (by decide) rfl
        obtain ⟨hqn, hP, hD⟩ := pl_push (q := qn_244) (e := shE (kd, v2, v3, ht, wt, cl, false)) hP hD
        refine W.widen (k := cells + 6) (n := slots + 83) (by show cells + 1 ≤ cells + 6; omega) (by show slots + 7 ≤ slots + 83; omega) ?_
        refine lv_aload_n hx hb dL_law_247 rfl (lv_at hl 2 rfl) ?_
        refine lv_aload_n hx hb dL_law_248 rfl (lv_at hl 0 rfl) ?_
        refine lv_iload_n hx hb dL_law_249 rfl (lv_at hl 3 rfl) ?_
        refine lv_iconst (v := iI (1)) hx hb dL_law_250 rfl ?_
        refine k_iaddN (a := i) (b := 1) hx hb dL_law_251 ?_
        refine k_sld hx hb hX hbl hbA hS (z := i + 1) (by omega) hL dL_law_252 ?_
        rw [← e1]
        refine lv_aload_n hx hb dL_law_253 rfl (lv_at hl 0 rfl) ?_
        refine lv_iload_n hx hb dL_law_254 rfl (lv_at hl 3 rfl) ?_
        refine lv_iconst (v := iI (2)) hx hb dL_law_255 rfl ?_
        refine k_iaddN (a := i) (b := 2) hx hb dL_law_256 ?_
        refine k_sld hx hb hX hbl hbA hS (z := i + 2) (by omega) hL dL_law_257 ?_
        rw [← e2]
        refine lv_aload_n hx hb dL_law_258 rfl (lv_at hl 0 rfl) ?_
        refine lv_iload_n hx hb dL_law_259 rfl (lv_at hl 3 rfl) ?_
        refine lv_iconst (v := iI (3)) hx hb dL_law_260 rfl ?_
        refine k_iaddN (a := i) (b := 3) hx hb dL_law_261 ?_
        refine k_sld hx hb hX hbl hbA hS (z := i + 3) (by omega) hL dL_law_262 ?_
        rw [← e3]
        refine lv_aload_n hx hb dL_law_263 rfl (lv_at hl 0 rfl) ?_
        refine lv_iload_n hx hb dL_law_264 rfl (lv_at hl 3 rfl) ?_
        refine lv_iconst (v := iI (4)) hx hb dL_law_265 rfl ?_
        refine k_iaddN (a := i) (b := 4) hx hb dL_law_266 ?_
        refine k_sld hx hb hX hbl hbA hS (z := i + 4) (by omega) hL dL_law_267 ?_
        rw [← e4]
        refine lv_aload_n hx hb dL_law_268 rfl (lv_at hl 0 rfl) ?_
        refine lv_iload_n hx hb dL_law_269 rfl (lv_at hl 3 rfl) ?_
        refine lv_iconst (v := iI (5)) hx hb dL_law_270 rfl ?_
        refine k_iaddN (a := i) (b := 5) hx hb dL_law_271 ?_
        refine k_sld hx hb hX hbl hbA hS (z := i + 5) (by omega) hL dL_law_272 ?_
        rw [← e5]
        refine lv_aload_n hx hb dL_law_273 rfl (lv_at hl 0 rfl) ?_
        refine lv_iload_n hx hb dL_law_274 rfl (lv_at hl 3 rfl) ?_
        refine lv_bipush (v := iI (6)) hx hb dL_law_275 (by decide) ?_
        refine k_iaddN (a := i) (b := 6) hx hb dL_law_277 ?_
        refine k_sld hx hb hX hbl hbA hS (z := i + 6) (by omega) hL dL_law_278 ?_
        rw [← e6]
        refine lv_aload_n hx hb dL_law_279 rfl (lv_at hl 0 rfl) ?_
        refine lv_iload_n hx hb dL_law_280 rfl (lv_at hl 3 rfl) ?_
        refine lv_bipush (v := iI (7)) hx hb dL_law_281 (by decide) ?_
        refine k_iaddN (a := i) (b := 7) hx hb dL_law_283 ?_
        refine k_sld hx hb hX hbl hbA hS (z := i + 7) (by omega) hL dL_law_284 ?_
        rw [← e7]
        refine k_if_eq (a := v7) (tgt := 292) hx hb (by omega) dL_law_285 (by decide) (fun c_285 => ?_) (fun c_285 => ?_)
        · refine lv_iconst (v := iI (0)) hx hb dL_law_292 rfl ?_
          have hP := toM_P hP
          have hD := toM_D hD
          refine k_rwVY (rest := [.int (iI ((-1)))]) (wr := [(a19, .inl (G.2 0, 256, .inl (fun iX => iI (z.2.1 iX)))), (a20, .inl (G.2 0, 256, .inl (fun iX => iI ((z.2.2.1 iX : Nat) : Int)))), (a21, .inl (G.2 1, 256, .inl (fun iX => iI (b2i (z.2.2.2.1 iX))))), (a22, .inl (G.2 0, 256, .inl (fun iX => iI ((z.2.2.2.2 iX : Nat) : Int)))), (a1, .inl (G.2 0, 5, .inl (fun iX => iI ((MR iX : Nat) : Int)))), (a2, .inl (G.2 0, 5, .inl (fun iX => iI ((MC iX : Nat) : Int)))), (a3, .inl (G.2 0, 20, .inl (fun iX => iI ((MW iX : Nat) : Int)))), (a4, .inl (G.2 0, 5, .inl (fun iX => iI ((MD iX : Nat) : Int)))), (a5, .inl (G.2 0, 5, .inl (fun iX => iI ((MY iX : Nat) : Int)))), (a6, .inl (G.2 0, 150, .inl (fun iX => iI ((OQ iX : Nat) : Int)))), (a7, .inl (G.2 0, 150, .inl (fun iX => iI ((KD iX : Nat) : Int)))), (a8, .inl (G.2 0, 150, .inl (fun iX => iI (TP iX)))), (a9, .inl (G.2 0, 150, .inl (fun iX => iI (LF iX)))), (a10, .inl (G.2 0, 150, .inl (fun iX => iI ((HT iX : Nat) : Int)))), (a11, .inl (G.2 0, 150, .inl (fun iX => iI ((WD iX : Nat) : Int)))), (a12, .inl (G.2 0, 150, .inl (fun iX => iI ((CL iX : Nat) : Int)))), (a13, .inl (G.2 0, 150, .inl (fun iX => iI ((FN iX : Nat) : Int)))), (a14, .inl (G.2 0, 5, .inl (fun iX => iI ((MT iX : Nat) : Int)))), (a15, .inl (G.2 0, 20, .inl (fun iX => iI (DR iX)))), (a16, .inl (G.2 0, 20, .inl (fun iX => iI (DC iX)))), (a17, .inl (G.2 0, 5, .inl (fun iX => iI (CR iX)))), (a23, .inl (G.2 1, 4, .inl (fun iX => iI (b2i (KP iX)))))]) (w := [(m, .inr (5, [.int (iI (0)), .ref a1, .ref a2, .ref a3, .ref a4, .ref a5, .ref a6, .ref a7, .ref a8, .ref a9, .ref a10, .ref a11, .ref a12, .ref a13, .ref a14, .ref a15, .ref a16, .ref a17, .int (iI (b2i (z.1))), .ref a19, .ref a20, .ref a21, .ref a22, .ref a23]))]) (v := [(a4, .inl (G.2 0, 5, .inl (fun iX => iI ((MD iX : Nat) : Int))))]) [.int (iI (((kd : Nat) : Int))), .int (iI (v2)), .int (iI (v3)), .int (iI (((ht : Nat) : Int))), .int (iI (((wt : Nat) : Int))), .int (iI (((cl : Nat) : Int))), .int (iI (0))] ⟨hx, hb, hml, hown, hts⟩ (c_X5_shape_N lM G H.size m a1 a2 a3 a4 a5 a6 a7 a8 a9 a10 a11 a12 a13 a14 a15 a16 a17 a19 a20 a21 a22 a23 z.1 ((kd : Nat) : Int) v2 v3 ((ht : Nat) : Int) ((wt : Nat) : Int) ((cl : Nat) : Int) false MD (fun q => hm q.1) (by omega) (by omega) (by omega) (by omega) (by omega) (by omega) (by omega)) (cwV 7 hts gL_law_X5_shape rfl rfl rfl (by decide +kernel) ⟨Nat.le_of_ble_eq_true rfl, Nat.le_of_ble_eq_true rfl⟩) hG (va_recv hG.1 hP (ci := 5) (q0 := 0) rfl rfl) hP hD hS hA [0] [1, 2, 3, 4, 5, 6, 7, 8, 9, 10, 11, 12, 13, 14, 15, 16, 17, 18, 19, 20, 21, 22] rfl rfl (by decide) (rd0 (vx := [(a4, .inl (G.2 0, 5, .inl (fun iX => iI ((MD iX : Nat) : Int))))]) hP [8] rfl) (ap0 (vx := [(a4, .inl (G.2 0, 5, .inl (fun iX => iI ((MD iX : Nat) : Int))))]) hD [0] [8] rfl rfl (by decide)) rfl rfl hl.1 (Nat.le_of_ble_eq_true rfl) ⟨by show cells + 6 + 0 ≤ 600000; omega, by show slots + 83 + 0 ≤ 7302250; omega⟩ dL_law_293 (fun o9 w9 H locs h9 hP hD hS => ?_)
          obtain ⟨rfl, rfl⟩ := h9
          have hP : va_P G.1 vwCl (mX G m a1 a2 a3 a4 a5 a6 a7 a8 a9 a10 a11 a12 a13 a14 a15 a16 a17 a19 a20 a21 a22 a23 MR MC MW MD MY OQ KD TP LF HT WD CL FN MT DR DC CR KP z ++ (cX G x t p im sa qo wo qi wi qs wd qp wp qh wh aw ad ac ao ax (MR 0) (MC 0) (MT 0) (CR 0) (MY 0) (MD 0) MW OQ DC DR SH IM (kp s 0) ++ (va_pl (LP ++ [qn_244]) (va_up f qn_244 (shE (kd, v2, v3, ht, wt, cl, false))) ++ imL I))) H := re_P (ws' := mX G m a1 a2 a3 a4 a5 a6 a7 a8 a9 a10 a11 a12 a13 a14 a15 a16 a17 a19 a20 a21 a22 a23 MR MC MW MD MY OQ KD TP LF HT WD CL FN MT DR DC CR KP z) hP [22, 0, 1, 2, 3, 4, 5, 6, 7, 8, 9, 10, 11, 12, 13, 14, 15, 16, 17, 18, 19, 20, 21] rfl
          have hD : va_D _ (mX G m a1 a2 a3 a4 a5 a6 a7 a8 a9 a10 a11 a12 a13 a14 a15 a16 a17 a19 a20 a21 a22 a23 MR MC MW MD MY OQ KD TP LF HT WD CL FN MT DR DC CR KP z ++ (cX G x t p im sa qo wo qi wi qs wd qp wp qh wh aw ad ac ao ax (MR 0) (MC 0) (MT 0) (CR 0) (MY 0) (MD 0) MW OQ DC DR SH IM (kp s 0) ++ (va_pl (LP ++ [qn_244]) (va_up f qn_244 (shE (kd, v2, v3, ht, wt, cl, false))) ++ imL I))) := re_D (ws' := mX G m a1 a2 a3 a4 a5 a6 a7 a8 a9 a10 a11 a12 a13 a14 a15 a16 a17 a19 a20 a21 a22 a23 MR MC MW MD MY OQ KD TP LF HT WD CL FN MT DR DC CR KP z) hD [22, 0, 1, 2, 3, 4, 5, 6, 7, 8, 9, 10, 11, 12, 13, 14, 15, 16, 17, 18, 19, 20, 21] (by decide) rfl
          have hP := toC_P hP
          have hD := toC_D hD
          refine k_same (a := (-1)) (b := (-1)) (tgt := 885) hx hb (rfl) dL_law_296 (by decide) ?_
          exact next H locs ls ⟨t, p, im, sa, qo, wo, qi, wi, qs, wd, qp, wp, qh, wh, aw, ad, ac, ao, ax, a1, a2, a3, a4, a5, a6, a7, a8, a9, a10, a11, a12, a13, a14, a15, a16, a17, a19, a20, a21, a22, a23, LP ++ [qn_244], va_up f qn_244 (shE (kd, v2, v3, ht, wt, cl, false)), I, IM, SH, kp s 0, z, MR, MC, MW, MD, MY, OQ, KD, TP, LF, HT, WD, CL, FN, MT, DR, DC, CR, KP, hP, hD, ⟨⟨rMR, rMC, rMW, rOQ, rKD, rTP, rLF, rHT, rWD, rCL, rFN, rMT, rDR, rDC, rCR⟩, shR_pool hSh (pool_push hqn), wV_0 hW.1, hZ, (fun k hk => imR_mono (hIm k hk) (pool_push hqn) (fun _ _ => rfl) (fun _ _ => rfl) (fun _ _ => rfl) (fun _ _ => rfl) (fun _ _ => rfl) (fun _ _ => rfl) (fun _ _ => rfl) (fun _ _ => rfl) (fun _ _ => rfl) (fun _ _ => rfl) (fun _ _ => rfl) (fun _ _ => rfl) (fun _ _ => rfl) (fun _ _ => rfl) (fun _ _ => rfl) (fun _ _ => rfl) (fun _ _ => rfl))⟩⟩ hS (lv_sub hl [0, 1, 2, 3] rfl)
        · exact absurd c_236 c_285
      · refine lv_iconst (v := iI (1)) hx hb dL_law_239 rfl ?_
        refine lv_goto (tgt := 244) hx hb dL_law_240 (by decide) ?_
        refine k_rwVY (rest := []) (wr := [(x, .inr (4, [.ref t, .ref p, .ref im])), (aw, .inl (G.2 0, 4, .inl (fun iX => iI ((MW iX : Nat) : Int)))), (ad, .inl (G.2 0, 4, .inl (fun iX => iI (DR iX)))), (ac, .inl (G.2 0, 4, .inl (fun iX => iI (DC iX)))), (ao, .inl (G.2 0, 30, .inl (fun iX => iI ((OQ iX : Nat) : Int)))), (ax, .inl (G.2 2, 30, .inr (.inr (.inr (.inr SH))))), (sa, .inl (G.2 0, 256, .inl (fun iX => iI (s.1.1 iX)))), (wi, .inl (G.2 0, 4 * 16, .inl (fun iX => iI ((s.1.2.1 iX : Nat) : Int)))), (wo, .inl (G.2 0, 16 * 16, .inl (fun iX => iI ((s.1.2.2.1 iX : Nat) : Int)))), (wd, .inl (G.2 0, 1 * 16, .inl (fun iX => iI ((s.1.2.2.2 iX : Nat) : Int)))), (wp, .inl (G.2 0, 4 * 16, .inl (fun iX => iI ((s.2.1 iX : Nat) : Int)))), (wh, .inl (G.2 0, 4 * 16, .inl (fun iX => iI ((s.2.2.1 iX : Nat) : Int)))), (qo, .inr (0, [.int (iI (16)), .ref wo])), (qi, .inr (0, [.int (iI (4)), .ref wi])), (qs, .inr (0, [.int (iI (1)), .ref wd])), (qp, .inr (0, [.int (iI (4)), .ref wp])), (qh, .inr (0, [.int (iI (4)), .ref wh])), (im, .inl (G.2 3, 4, .inr (.inr (.inr (.inr IM)))))]) (w := [(t, .inr (3, [.int (iI ((((MR 0) : Nat) : Int))), .int (iI ((((MC 0) : Nat) : Int))), .int (iI ((((MT 0) : Nat) : Int))), .int (iI ((CR 0))), .int (iI ((((MY 0) : Nat) : Int))), .int (iI ((((MD 0) : Nat) : Int))), .ref aw, .ref ad, .ref ac, .ref ao, .ref ax])), (p, .inr (1, [.ref sa, .ref qo, .ref qi, .ref qs, .ref qp, .ref qh, .int (iI ((((s.2.2.2) : Nat) : Int)))]))]) (v := [(x, .inr (4, [.ref t, .ref p, .ref im]))]) [.int (iI (((kd : Nat) : Int))), .int (iI (v2)), .int (iI (v3)), .int (iI (((ht : Nat) : Int))), .int (iI (((wt : Nat) : Int))), .int (iI (((cl : Nat) : Int))), .int (iI (1))] ⟨hx, hb, hml, hown, hts⟩ (c_X4_shape_F lM G H.size x im t (MR 0) (MC 0) (MT 0) (CR 0) (MY 0) (MD 0) aw ad ac ao ax p sa qo qi qs qp qh s.2.2.2 kd v2 v3 ht wt cl true (by omega) hv.2.1 (by omega) (by omega) (by omega) (by omega) (by omega)) (cwV 7 hts gL_law_X4_shape rfl rfl rfl (by decide +kernel) ⟨Nat.le_of_ble_eq_true rfl, Nat.le_of_ble_eq_true rfl⟩) hG (va_recv hG.1 hP (ci := 4) (q0 := 0) rfl rfl) hP hD hS hA [1, 7] [0, 2, 3, 4, 5, 6, 8, 9, 10, 11, 12, 13, 14, 15, 16, 17, 18, 19] rfl rfl (by decide) (rd0 (vx := [(x, .inr (4, [.ref t, .ref p, .ref im]))]) hP [0] rfl) (ap0 (vx := [(x, .inr (4, [.ref t, .ref p, .ref im]))]) hD [1, 7] [0] rfl rfl (by decide)) rfl rfl hl.1 (Nat.le_of_ble_eq_true rfl) ⟨by show cells + 1 ≤ 600000; omega, by show slots + 7 ≤ 7302250; omega⟩ dL_law_244 (fun o9 w9 H locs h9 hP hD hS => ?_)
        obtain ⟨qn_244, rfl, rfl⟩ := h9
        have hP : va_P G.1 vwCl ((cX G x t p im sa qo wo qi wi qs wd qp wp qh wh aw ad ac ao ax (MR 0) (MC 0) (MT 0) (CR 0) (MY 0) (MD 0) MW OQ DC DR SH IM (kp s 0) ++ [(qn_244, shE (kd, v2, v3, ht, wt, cl, true))]) ++ (va_pl LP f ++ (imL I ++ mX G m a1 a2 a3 a4 a5 a6 a7 a8 a9 a10 a11 a12 a13 a14 a15 a16 a17 a19 a20 a21 a22 a23 MR MC MW MD MY OQ KD TP LF HT WD CL FN MT DR DC CR KP z))) H := re_P (ws' := (cX G x t p im sa qo wo qi wi qs wd qp wp qh wh aw ad ac ao ax (MR 0) (MC 0) (MT 0) (CR 0) (MY 0) (MD 0) MW OQ DC DR SH IM (kp s 0) ++ [(qn_244, shE (kd, v2, v3, ht, wt, cl, true))])) hP [0, 18, 1, 2, 3, 4, 5, 19, 6, 7, 8, 9, 10, 11, 12, 13, 14, 15, 16, 17, 20] rfl
        have hD : va_D _ ((cX G x t p im sa qo wo qi wi qs wd qp wp qh wh aw ad ac ao ax (MR 0) (MC 0) (MT 0) (CR 0) (MY 0) (MD 0) MW OQ DC DR SH IM (kp s 0) ++ [(qn_244, shE (kd, v2, v3, ht, wt, cl, true))]) ++ (va_pl LP f ++ (imL I ++ mX G m a1 a2 a3 a4 a5 a6 a7 a8 a9 a10 a11 a12 a13 a14 a15 a16 a17 a19 a20 a21 a22 a23 MR MC MW MD MY OQ KD TP LF HT WD CL FN MT DR DC CR KP z))) := re_D (ws' := (cX G x t p im sa qo wo qi wi qs wd qp wp qh wh aw ad ac ao ax (MR 0) (MC 0) (MT 0) (CR 0) (MY 0) (MD 0) MW OQ DC DR SH IM (kp s 0) ++ [(qn_244, shE (kd, v2, v3, ht, wt, cl, true))])) hD [0, 18, 1, 2, 3, 4, 5, 19, 6, 7, 8, 9, 10, 11, 12, 13, 14, 15, 16, 17, 20] (by decide) rfl
        obtain ⟨hqn, hP, hD⟩ := pl_push (q := qn_244) (e := shE (kd, v2, v3, ht, wt, cl, true)) hP hD
        refine W.widen (k := cells + 6) (n := slots + 83) (by show cells + 1 ≤ cells + 6; omega) (by show slots + 7 ≤ slots + 83; omega) ?_
        refine lv_aload_n hx hb dL_law_247 rfl (lv_at hl 2 rfl) ?_
        refine lv_aload_n hx hb dL_law_248 rfl (lv_at hl 0 rfl) ?_
        refine lv_iload_n hx hb dL_law_249 rfl (lv_at hl 3 rfl) ?_
        refine lv_iconst (v := iI (1)) hx hb dL_law_250 rfl ?_
        refine k_iaddN (a := i) (b := 1) hx hb dL_law_251 ?_
        refine k_sld hx hb hX hbl hbA hS (z := i + 1) (by omega) hL dL_law_252 ?_
        rw [← e1]
        refine lv_aload_n hx hb dL_law_253 rfl (lv_at hl 0 rfl) ?_
        refine lv_iload_n hx hb dL_law_254 rfl (lv_at hl 3 rfl) ?_
        refine lv_iconst (v := iI (2)) hx hb dL_law_255 rfl ?_
        refine k_iaddN (a := i) (b := 2) hx hb dL_law_256 ?_
        refine k_sld hx hb hX hbl hbA hS (z := i + 2) (by omega) hL dL_law_257 ?_
        rw [← e2]
        refine lv_aload_n hx hb dL_law_258 rfl (lv_at hl 0 rfl) ?_
        refine lv_iload_n hx hb dL_law_259 rfl (lv_at hl 3 rfl) ?_
        refine lv_iconst (v := iI (3)) hx hb dL_law_260 rfl ?_
        refine k_iaddN (a := i) (b := 3) hx hb dL_law_261 ?_
        refine k_sld hx hb hX hbl hbA hS (z := i + 3) (by omega) hL dL_law_262 ?_
        rw [← e3]
        refine lv_aload_n hx hb dL_law_263 rfl (lv_at hl 0 rfl) ?_
        refine lv_iload_n hx hb dL_law_264 rfl (lv_at hl 3 rfl) ?_
        refine lv_iconst (v := iI (4)) hx hb dL_law_265 rfl ?_
        refine k_iaddN (a := i) (b := 4) hx hb dL_law_266 ?_
        refine k_sld hx hb hX hbl hbA hS (z := i + 4) (by omega) hL dL_law_267 ?_
        rw [← e4]
        refine lv_aload_n hx hb dL_law_268 rfl (lv_at hl 0 rfl) ?_
        refine lv_iload_n hx hb dL_law_269 rfl (lv_at hl 3 rfl) ?_
        refine lv_iconst (v := iI (5)) hx hb dL_law_270 rfl ?_
        refine k_iaddN (a := i) (b := 5) hx hb dL_law_271 ?_
        refine k_sld hx hb hX hbl hbA hS (z := i + 5) (by omega) hL dL_law_272 ?_
        rw [← e5]
        refine lv_aload_n hx hb dL_law_273 rfl (lv_at hl 0 rfl) ?_
        refine lv_iload_n hx hb dL_law_274 rfl (lv_at hl 3 rfl) ?_
        refine lv_bipush (v := iI (6)) hx hb dL_law_275 (by decide) ?_
        refine k_iaddN (a := i) (b := 6) hx hb dL_law_277 ?_
        refine k_sld hx hb hX hbl hbA hS (z := i + 6) (by omega) hL dL_law_278 ?_
        rw [← e6]
        refine lv_aload_n hx hb dL_law_279 rfl (lv_at hl 0 rfl) ?_
        refine lv_iload_n hx hb dL_law_280 rfl (lv_at hl 3 rfl) ?_
        refine lv_bipush (v := iI (7)) hx hb dL_law_281 (by decide) ?_
        refine k_iaddN (a := i) (b := 7) hx hb dL_law_283 ?_
        refine k_sld hx hb hX hbl hbA hS (z := i + 7) (by omega) hL dL_law_284 ?_
        rw [← e7]
        refine k_if_eq (a := v7) (tgt := 292) hx hb (by omega) dL_law_285 (by decide) (fun c_285 => ?_) (fun c_285 => ?_)
        · exact absurd c_285 c_236
        · refine lv_iconst (v := iI (1)) hx hb dL_law_288 rfl ?_
          refine lv_goto (tgt := 293) hx hb dL_law_289 (by decide) ?_
          have hP := toM_P hP
          have hD := toM_D hD
          refine k_rwVY (rest := [.int (iI ((-1)))]) (wr := [(a19, .inl (G.2 0, 256, .inl (fun iX => iI (z.2.1 iX)))), (a20, .inl (G.2 0, 256, .inl (fun iX => iI ((z.2.2.1 iX : Nat) : Int)))), (a21, .inl (G.2 1, 256, .inl (fun iX => iI (b2i (z.2.2.2.1 iX))))), (a22, .inl (G.2 0, 256, .inl (fun iX => iI ((z.2.2.2.2 iX : Nat) : Int)))), (a1, .inl (G.2 0, 5, .inl (fun iX => iI ((MR iX : Nat) : Int)))), (a2, .inl (G.2 0, 5, .inl (fun iX => iI ((MC iX : Nat) : Int)))), (a3, .inl (G.2 0, 20, .inl (fun iX => iI ((MW iX : Nat) : Int)))), (a4, .inl (G.2 0, 5, .inl (fun iX => iI ((MD iX : Nat) : Int)))), (a5, .inl (G.2 0, 5, .inl (fun iX => iI ((MY iX : Nat) : Int)))), (a6, .inl (G.2 0, 150, .inl (fun iX => iI ((OQ iX : Nat) : Int)))), (a7, .inl (G.2 0, 150, .inl (fun iX => iI ((KD iX : Nat) : Int)))), (a8, .inl (G.2 0, 150, .inl (fun iX => iI (TP iX)))), (a9, .inl (G.2 0, 150, .inl (fun iX => iI (LF iX)))), (a10, .inl (G.2 0, 150, .inl (fun iX => iI ((HT iX : Nat) : Int)))), (a11, .inl (G.2 0, 150, .inl (fun iX => iI ((WD iX : Nat) : Int)))), (a12, .inl (G.2 0, 150, .inl (fun iX => iI ((CL iX : Nat) : Int)))), (a13, .inl (G.2 0, 150, .inl (fun iX => iI ((FN iX : Nat) : Int)))), (a14, .inl (G.2 0, 5, .inl (fun iX => iI ((MT iX : Nat) : Int)))), (a15, .inl (G.2 0, 20, .inl (fun iX => iI (DR iX)))), (a16, .inl (G.2 0, 20, .inl (fun iX => iI (DC iX)))), (a17, .inl (G.2 0, 5, .inl (fun iX => iI (CR iX)))), (a23, .inl (G.2 1, 4, .inl (fun iX => iI (b2i (KP iX)))))]) (w := [(m, .inr (5, [.int (iI (0)), .ref a1, .ref a2, .ref a3, .ref a4, .ref a5, .ref a6, .ref a7, .ref a8, .ref a9, .ref a10, .ref a11, .ref a12, .ref a13, .ref a14, .ref a15, .ref a16, .ref a17, .int (iI (b2i (z.1))), .ref a19, .ref a20, .ref a21, .ref a22, .ref a23]))]) (v := [(a4, .inl (G.2 0, 5, .inl (fun iX => iI ((MD iX : Nat) : Int))))]) [.int (iI (((kd : Nat) : Int))), .int (iI (v2)), .int (iI (v3)), .int (iI (((ht : Nat) : Int))), .int (iI (((wt : Nat) : Int))), .int (iI (((cl : Nat) : Int))), .int (iI (1))] ⟨hx, hb, hml, hown, hts⟩ (c_X5_shape_N lM G H.size m a1 a2 a3 a4 a5 a6 a7 a8 a9 a10 a11 a12 a13 a14 a15 a16 a17 a19 a20 a21 a22 a23 z.1 ((kd : Nat) : Int) v2 v3 ((ht : Nat) : Int) ((wt : Nat) : Int) ((cl : Nat) : Int) true MD (fun q => hm q.1) (by omega) (by omega) (by omega) (by omega) (by omega) (by omega) (by omega)) (cwV 7 hts gL_law_X5_shape rfl rfl rfl (by decide +kernel) ⟨Nat.le_of_ble_eq_true rfl, Nat.le_of_ble_eq_true rfl⟩) hG (va_recv hG.1 hP (ci := 5) (q0 := 0) rfl rfl) hP hD hS hA [0] [1, 2, 3, 4, 5, 6, 7, 8, 9, 10, 11, 12, 13, 14, 15, 16, 17, 18, 19, 20, 21, 22] rfl rfl (by decide) (rd0 (vx := [(a4, .inl (G.2 0, 5, .inl (fun iX => iI ((MD iX : Nat) : Int))))]) hP [8] rfl) (ap0 (vx := [(a4, .inl (G.2 0, 5, .inl (fun iX => iI ((MD iX : Nat) : Int))))]) hD [0] [8] rfl rfl (by decide)) rfl rfl hl.1 (Nat.le_of_ble_eq_true rfl) ⟨by show cells + 6 + 0 ≤ 600000; omega, by show slots + 83 + 0 ≤ 7302250; omega⟩ dL_law_293 (fun o9 w9 H locs h9 hP hD hS => ?_)
          obtain ⟨rfl, rfl⟩ := h9
          have hP : va_P G.1 vwCl (mX G m a1 a2 a3 a4 a5 a6 a7 a8 a9 a10 a11 a12 a13 a14 a15 a16 a17 a19 a20 a21 a22 a23 MR MC MW MD MY OQ KD TP LF HT WD CL FN MT DR DC CR KP z ++ (cX G x t p im sa qo wo qi wi qs wd qp wp qh wh aw ad ac ao ax (MR 0) (MC 0) (MT 0) (CR 0) (MY 0) (MD 0) MW OQ DC DR SH IM (kp s 0) ++ (va_pl (LP ++ [qn_244]) (va_up f qn_244 (shE (kd, v2, v3, ht, wt, cl, true))) ++ imL I))) H := re_P (ws' := mX G m a1 a2 a3 a4 a5 a6 a7 a8 a9 a10 a11 a12 a13 a14 a15 a16 a17 a19 a20 a21 a22 a23 MR MC MW MD MY OQ KD TP LF HT WD CL FN MT DR DC CR KP z) hP [22, 0, 1, 2, 3, 4, 5, 6, 7, 8, 9, 10, 11, 12, 13, 14, 15, 16, 17, 18, 19, 20, 21] rfl
          have hD : va_D _ (mX G m a1 a2 a3 a4 a5 a6 a7 a8 a9 a10 a11 a12 a13 a14 a15 a16 a17 a19 a20 a21 a22 a23 MR MC MW MD MY OQ KD TP LF HT WD CL FN MT DR DC CR KP z ++ (cX G x t p im sa qo wo qi wi qs wd qp wp qh wh aw ad ac ao ax (MR 0) (MC 0) (MT 0) (CR 0) (MY 0) (MD 0) MW OQ DC DR SH IM (kp s 0) ++ (va_pl (LP ++ [qn_244]) (va_up f qn_244 (shE (kd, v2, v3, ht, wt, cl, true))) ++ imL I))) := re_D (ws' := mX G m a1 a2 a3 a4 a5 a6 a7 a8 a9 a10 a11 a12 a13 a14 a15 a16 a17 a19 a20 a21 a22 a23 MR MC MW MD MY OQ KD TP LF HT WD CL FN MT DR DC CR KP z) hD [22, 0, 1, 2, 3, 4, 5, 6, 7, 8, 9, 10, 11, 12, 13, 14, 15, 16, 17, 18, 19, 20, 21] (by decide) rfl
          have hP := toC_P hP
          have hD := toC_D hD
          refine k_same (a := (-1)) (b := (-1)) (tgt := 885) hx hb (rfl) dL_law_296 (by decide) ?_
          exact next H locs ls ⟨t, p, im, sa, qo, wo, qi, wi, qs, wd, qp, wp, qh, wh, aw, ad, ac, ao, ax, a1, a2, a3, a4, a5, a6, a7, a8, a9, a10, a11, a12, a13, a14, a15, a16, a17, a19, a20, a21, a22, a23, LP ++ [qn_244], va_up f qn_244 (shE (kd, v2, v3, ht, wt, cl, true)), I, IM, SH, kp s 0, z, MR, MC, MW, MD, MY, OQ, KD, TP, LF, HT, WD, CL, FN, MT, DR, DC, CR, KP, hP, hD, ⟨⟨rMR, rMC, rMW, rOQ, rKD, rTP, rLF, rHT, rWD, rCL, rFN, rMT, rDR, rDC, rCR⟩, shR_pool hSh (pool_push hqn), wV_0 hW.1, hZ, (fun k hk => imR_mono (hIm k hk) (pool_push hqn) (fun _ _ => rfl) (fun _ _ => rfl) (fun _ _ => rfl) (fun _ _ => rfl) (fun _ _ => rfl) (fun _ _ => rfl) (fun _ _ => rfl) (fun _ _ => rfl) (fun _ _ => rfl) (fun _ _ => rfl) (fun _ _ => rfl) (fun _ _ => rfl) (fun _ _ => rfl) (fun _ _ => rfl) (fun _ _ => rfl) (fun _ _ => rfl) (fun _ _ => rfl))⟩⟩ hS (lv_sub hl [0, 1, 2, 3] rfl)
  · refine lv_aload_n hx hb dL_law_198 rfl (lv_at hl 1 rfl) ?_
    refine lv_aload_n hx hb dL_law_199 rfl (lv_at hl 0 rfl) ?_
    refine lv_iload_n hx hb dL_law_200 rfl (lv_at hl 3 rfl) ?_
    refine lv_iconst (v := iI (1)) hx hb dL_law_201 rfl ?_
    refine k_iaddN (a := i) (b := 1) hx hb dL_law_202 ?_
    refine k_sld hx hb hX hbl hbA hS (z := i + 1) (by omega) hL dL_law_203 ?_
    rw [← e1]
    refine lv_aload_n hx hb dL_law_204 rfl (lv_at hl 0 rfl) ?_
    refine lv_iload_n hx hb dL_law_205 rfl (lv_at hl 3 rfl) ?_
    refine lv_iconst (v := iI (2)) hx hb dL_law_206 rfl ?_
    refine k_iaddN (a := i) (b := 2) hx hb dL_law_207 ?_
    refine k_sld hx hb hX hbl hbA hS (z := i + 2) (by omega) hL dL_law_208 ?_
    rw [← e2]
    refine lv_aload_n hx hb dL_law_209 rfl (lv_at hl 0 rfl) ?_
    refine lv_iload_n hx hb dL_law_210 rfl (lv_at hl 3 rfl) ?_
    refine lv_iconst (v := iI (3)) hx hb dL_law_211 rfl ?_
    refine k_iaddN (a := i) (b := 3) hx hb dL_law_212 ?_
    refine k_sld hx hb hX hbl hbA hS (z := i + 3) (by omega) hL dL_law_213 ?_
    rw [← e3]
    refine lv_aload_n hx hb dL_law_214 rfl (lv_at hl 0 rfl) ?_
    refine lv_iload_n hx hb dL_law_215 rfl (lv_at hl 3 rfl) ?_
    refine lv_iconst (v := iI (4)) hx hb dL_law_216 rfl ?_
    refine k_iaddN (a := i) (b := 4) hx hb dL_law_217 ?_
    refine k_sld hx hb hX hbl hbA hS (z := i + 4) (by omega) hL dL_law_218 ?_
    rw [← e4]
    refine lv_aload_n hx hb dL_law_219 rfl (lv_at hl 0 rfl) ?_
    refine lv_iload_n hx hb dL_law_220 rfl (lv_at hl 3 rfl) ?_
    refine lv_iconst (v := iI (5)) hx hb dL_law_221 rfl ?_
    refine k_iaddN (a := i) (b := 5) hx hb dL_law_222 ?_
    refine k_sld hx hb hX hbl hbA hS (z := i + 5) (by omega) hL dL_law_223 ?_
    rw [← e5]
    refine lv_aload_n hx hb dL_law_224 rfl (lv_at hl 0 rfl) ?_
    refine lv_iload_n hx hb dL_law_225 rfl (lv_at hl 3 rfl) ?_
    refine lv_bipush (v := iI (6)) hx hb dL_law_226 (by decide) ?_
    refine k_iaddN (a := i) (b := 6) hx hb dL_law_228 ?_
    refine k_sld hx hb hX hbl hbA hS (z := i + 6) (by omega) hL dL_law_229 ?_
    rw [← e6]
    refine lv_aload_n hx hb dL_law_230 rfl (lv_at hl 0 rfl) ?_
    refine lv_iload_n hx hb dL_law_231 rfl (lv_at hl 3 rfl) ?_
    refine lv_bipush (v := iI (7)) hx hb dL_law_232 (by decide) ?_
    refine k_iaddN (a := i) (b := 7) hx hb dL_law_234 ?_
    refine k_sld hx hb hX hbl hbA hS (z := i + 7) (by omega) hL dL_law_235 ?_
    rw [← e7]
    refine k_if_eq (a := v7) (tgt := 243) hx hb (by omega) dL_law_236 (by decide) (fun c_236 => ?_) (fun c_236 => ?_)
    · refine lv_iconst (v := iI (0)) hx hb dL_law_243 rfl ?_
      refine k_rwVY (rest := []) (wr := [(x, .inr (4, [.ref t, .ref p, .ref im])), (t, .inr (3, [.int (iI ((((MR 0) : Nat) : Int))), .int (iI ((((MC 0) : Nat) : Int))), .int (iI ((((MT 0) : Nat) : Int))), .int (iI ((CR 0))), .int (iI ((((MY 0) : Nat) : Int))), .int (iI ((((MD 0) : Nat) : Int))), .ref aw, .ref ad, .ref ac, .ref ao, .ref ax])), (aw, .inl (G.2 0, 4, .inl (fun iX => iI ((MW iX : Nat) : Int)))), (ad, .inl (G.2 0, 4, .inl (fun iX => iI (DR iX)))), (ac, .inl (G.2 0, 4, .inl (fun iX => iI (DC iX)))), (ao, .inl (G.2 0, 30, .inl (fun iX => iI ((OQ iX : Nat) : Int)))), (ax, .inl (G.2 2, 30, .inr (.inr (.inr (.inr SH))))), (p, .inr (1, [.ref sa, .ref qo, .ref qi, .ref qs, .ref qp, .ref qh, .int (iI (((s.2.2.2 : Nat) : Int)))])), (sa, .inl (G.2 0, 256, .inl (fun iX => iI (s.1.1 iX)))), (wi, .inl (G.2 0, 4 * 16, .inl (fun iX => iI ((s.1.2.1 iX : Nat) : Int)))), (wo, .inl (G.2 0, 16 * 16, .inl (fun iX => iI ((s.1.2.2.1 iX : Nat) : Int)))), (wd, .inl (G.2 0, 1 * 16, .inl (fun iX => iI ((s.1.2.2.2 iX : Nat) : Int)))), (wp, .inl (G.2 0, 4 * 16, .inl (fun iX => iI ((s.2.1 iX : Nat) : Int)))), (wh, .inl (G.2 0, 4 * 16, .inl (fun iX => iI ((s.2.2.1 iX : Nat) : Int)))), (qo, .inr (0, [.int (iI (16)), .ref wo])), (qi, .inr (0, [.int (iI (4)), .ref wi])), (qs, .inr (0, [.int (iI (1)), .ref wd])), (qp, .inr (0, [.int (iI (4)), .ref wp])), (qh, .inr (0, [.int (iI (4)), .ref wh])), (im, .inl (G.2 3, 4, .inr (.inr (.inr (.inr IM)))))]) (w := []) (v := []) [.int (iI (v1)), .int (iI (v2)), .int (iI (v3)), .int (iI (v4)), .int (iI (v5)), .int (iI (v6)), .int (iI (0))] ⟨hx, hb, hml, hown, hts⟩ (c_X4_shape_N lM G H.size x v1 v2 v3 v4 v5 v6 false hv (by omega) (by omega) (by omega) (by omega) (by omega) (by omega)) (cwV 7 hts gL_law_X4_shape rfl rfl rfl (by decide +kernel) ⟨Nat.le_of_ble_eq_true rfl, Nat.le_of_ble_eq_true rfl⟩) hG (va_recv hG.1 hP (ci := 4) (q0 := 0) rfl rfl) hP hD hS hA [] [0, 1, 2, 3, 4, 5, 6, 7, 8, 9, 10, 11, 12, 13, 14, 15, 16, 17, 18, 19] rfl rfl (by decide) (fun k q h => by simp at h) ap_nil rfl rfl hl.1 (Nat.le_of_ble_eq_true rfl) ⟨by show cells + 1 ≤ 600000; omega, by show slots + 7 ≤ 7302250; omega⟩ dL_law_244 (fun o9 w9 H locs h9 hP hD hS => ?_)
      obtain ⟨rfl, rfl⟩ := h9
      have hP : va_P G.1 vwCl (cX G x t p im sa qo wo qi wi qs wd qp wp qh wh aw ad ac ao ax (MR 0) (MC 0) (MT 0) (CR 0) (MY 0) (MD 0) MW OQ DC DR SH IM s ++ (va_pl LP f ++ (imL I ++ mX G m a1 a2 a3 a4 a5 a6 a7 a8 a9 a10 a11 a12 a13 a14 a15 a16 a17 a19 a20 a21 a22 a23 MR MC MW MD MY OQ KD TP LF HT WD CL FN MT DR DC CR KP z))) H := re_P (ws' := cX G x t p im sa qo wo qi wi qs wd qp wp qh wh aw ad ac ao ax (MR 0) (MC 0) (MT 0) (CR 0) (MY 0) (MD 0) MW OQ DC DR SH IM s) hP [0, 1, 2, 3, 4, 5, 6, 7, 8, 9, 10, 11, 12, 13, 14, 15, 16, 17, 18, 19] rfl
      have hD : va_D _ (cX G x t p im sa qo wo qi wi qs wd qp wp qh wh aw ad ac ao ax (MR 0) (MC 0) (MT 0) (CR 0) (MY 0) (MD 0) MW OQ DC DR SH IM s ++ (va_pl LP f ++ (imL I ++ mX G m a1 a2 a3 a4 a5 a6 a7 a8 a9 a10 a11 a12 a13 a14 a15 a16 a17 a19 a20 a21 a22 a23 MR MC MW MD MY OQ KD TP LF HT WD CL FN MT DR DC CR KP z))) := re_D (ws' := cX G x t p im sa qo wo qi wi qs wd qp wp qh wh aw ad ac ao ax (MR 0) (MC 0) (MT 0) (CR 0) (MY 0) (MD 0) MW OQ DC DR SH IM s) hD [0, 1, 2, 3, 4, 5, 6, 7, 8, 9, 10, 11, 12, 13, 14, 15, 16, 17, 18, 19] (by decide) rfl
      refine W.widen (k := cells + 6) (n := slots + 83) (by show cells + 1 ≤ cells + 6; omega) (by show slots + 7 ≤ slots + 83; omega) ?_
      refine lv_aload_n hx hb dL_law_247 rfl (lv_at hl 2 rfl) ?_
      refine lv_aload_n hx hb dL_law_248 rfl (lv_at hl 0 rfl) ?_
      refine lv_iload_n hx hb dL_law_249 rfl (lv_at hl 3 rfl) ?_
      refine lv_iconst (v := iI (1)) hx hb dL_law_250 rfl ?_
      refine k_iaddN (a := i) (b := 1) hx hb dL_law_251 ?_
      refine k_sld hx hb hX hbl hbA hS (z := i + 1) (by omega) hL dL_law_252 ?_
      rw [← e1]
      refine lv_aload_n hx hb dL_law_253 rfl (lv_at hl 0 rfl) ?_
      refine lv_iload_n hx hb dL_law_254 rfl (lv_at hl 3 rfl) ?_
      refine lv_iconst (v := iI (2)) hx hb dL_law_255 rfl ?_
      refine k_iaddN (a := i) (b := 2) hx hb dL_law_256 ?_
      refine k_sld hx hb hX hbl hbA hS (z := i + 2) (by omega) hL dL_law_257 ?_
      rw [← e2]
      refine lv_aload_n hx hb dL_law_258 rfl (lv_at hl 0 rfl) ?_
      refine lv_iload_n hx hb dL_law_259 rfl (lv_at hl 3 rfl) ?_
      refine lv_iconst (v := iI (3)) hx hb dL_law_260 rfl ?_
      refine k_iaddN (a := i) (b := 3) hx hb dL_law_261 ?_
      refine k_sld hx hb hX hbl hbA hS (z := i + 3) (by omega) hL dL_law_262 ?_
      rw [← e3]
      refine lv_aload_n hx hb dL_law_263 rfl (lv_at hl 0 rfl) ?_
      refine lv_iload_n hx hb dL_law_264 rfl (lv_at hl 3 rfl) ?_
      refine lv_iconst (v := iI (4)) hx hb dL_law_265 rfl ?_
      refine k_iaddN (a := i) (b := 4) hx hb dL_law_266 ?_
      refine k_sld hx hb hX hbl hbA hS (z := i + 4) (by omega) hL dL_law_267 ?_
      rw [← e4]
      refine lv_aload_n hx hb dL_law_268 rfl (lv_at hl 0 rfl) ?_
      refine lv_iload_n hx hb dL_law_269 rfl (lv_at hl 3 rfl) ?_
      refine lv_iconst (v := iI (5)) hx hb dL_law_270 rfl ?_
      refine k_iaddN (a := i) (b := 5) hx hb dL_law_271 ?_
      refine k_sld hx hb hX hbl hbA hS (z := i + 5) (by omega) hL dL_law_272 ?_
      rw [← e5]
      refine lv_aload_n hx hb dL_law_273 rfl (lv_at hl 0 rfl) ?_
      refine lv_iload_n hx hb dL_law_274 rfl (lv_at hl 3 rfl) ?_
      refine lv_bipush (v := iI (6)) hx hb dL_law_275 (by decide) ?_
      refine k_iaddN (a := i) (b := 6) hx hb dL_law_277 ?_
      refine k_sld hx hb hX hbl hbA hS (z := i + 6) (by omega) hL dL_law_278 ?_
      rw [← e6]
      refine lv_aload_n hx hb dL_law_279 rfl (lv_at hl 0 rfl) ?_
      refine lv_iload_n hx hb dL_law_280 rfl (lv_at hl 3 rfl) ?_
      refine lv_bipush (v := iI (7)) hx hb dL_law_281 (by decide) ?_
      refine k_iaddN (a := i) (b := 7) hx hb dL_law_283 ?_
      refine k_sld hx hb hX hbl hbA hS (z := i + 7) (by omega) hL dL_law_284 ?_
      rw [← e7]
      refine k_if_eq (a := v7) (tgt := 292) hx hb (by omega) dL_law_285 (by decide) (fun c_285 => ?_) (fun c_285 => ?_)
      · refine lv_iconst (v := iI (0)) hx hb dL_law_292 rfl ?_
        have hP := toM_P hP
        have hD := toM_D hD
        refine k_rwVY (rest := [.int (iI ((-1)))]) (wr := [(a19, .inl (G.2 0, 256, .inl (fun iX => iI (z.2.1 iX)))), (a20, .inl (G.2 0, 256, .inl (fun iX => iI ((z.2.2.1 iX : Nat) : Int)))), (a21, .inl (G.2 1, 256, .inl (fun iX => iI (b2i (z.2.2.2.1 iX))))), (a22, .inl (G.2 0, 256, .inl (fun iX => iI ((z.2.2.2.2 iX : Nat) : Int)))), (a1, .inl (G.2 0, 5, .inl (fun iX => iI ((MR iX : Nat) : Int)))), (a2, .inl (G.2 0, 5, .inl (fun iX => iI ((MC iX : Nat) : Int)))), (a3, .inl (G.2 0, 20, .inl (fun iX => iI ((MW iX : Nat) : Int)))), (a4, .inl (G.2 0, 5, .inl (fun iX => iI ((MD iX : Nat) : Int)))), (a5, .inl (G.2 0, 5, .inl (fun iX => iI ((MY iX : Nat) : Int)))), (a6, .inl (G.2 0, 150, .inl (fun iX => iI ((OQ iX : Nat) : Int)))), (a7, .inl (G.2 0, 150, .inl (fun iX => iI ((KD iX : Nat) : Int)))), (a8, .inl (G.2 0, 150, .inl (fun iX => iI (TP iX)))), (a9, .inl (G.2 0, 150, .inl (fun iX => iI (LF iX)))), (a10, .inl (G.2 0, 150, .inl (fun iX => iI ((HT iX : Nat) : Int)))), (a11, .inl (G.2 0, 150, .inl (fun iX => iI ((WD iX : Nat) : Int)))), (a12, .inl (G.2 0, 150, .inl (fun iX => iI ((CL iX : Nat) : Int)))), (a13, .inl (G.2 0, 150, .inl (fun iX => iI ((FN iX : Nat) : Int)))), (a14, .inl (G.2 0, 5, .inl (fun iX => iI ((MT iX : Nat) : Int)))), (a15, .inl (G.2 0, 20, .inl (fun iX => iI (DR iX)))), (a16, .inl (G.2 0, 20, .inl (fun iX => iI (DC iX)))), (a17, .inl (G.2 0, 5, .inl (fun iX => iI (CR iX)))), (a23, .inl (G.2 1, 4, .inl (fun iX => iI (b2i (KP iX)))))]) (w := [(m, .inr (5, [.int (iI (0)), .ref a1, .ref a2, .ref a3, .ref a4, .ref a5, .ref a6, .ref a7, .ref a8, .ref a9, .ref a10, .ref a11, .ref a12, .ref a13, .ref a14, .ref a15, .ref a16, .ref a17, .int (iI (b2i (z.1))), .ref a19, .ref a20, .ref a21, .ref a22, .ref a23]))]) (v := [(a4, .inl (G.2 0, 5, .inl (fun iX => iI ((MD iX : Nat) : Int))))]) [.int (iI (v1)), .int (iI (v2)), .int (iI (v3)), .int (iI (v4)), .int (iI (v5)), .int (iI (v6)), .int (iI (0))] ⟨hx, hb, hml, hown, hts⟩ (c_X5_shape_N lM G H.size m a1 a2 a3 a4 a5 a6 a7 a8 a9 a10 a11 a12 a13 a14 a15 a16 a17 a19 a20 a21 a22 a23 z.1 v1 v2 v3 v4 v5 v6 false MD (fun q => hv q.2) (by omega) (by omega) (by omega) (by omega) (by omega) (by omega) (by omega)) (cwV 7 hts gL_law_X5_shape rfl rfl rfl (by decide +kernel) ⟨Nat.le_of_ble_eq_true rfl, Nat.le_of_ble_eq_true rfl⟩) hG (va_recv hG.1 hP (ci := 5) (q0 := 0) rfl rfl) hP hD hS hA [0] [1, 2, 3, 4, 5, 6, 7, 8, 9, 10, 11, 12, 13, 14, 15, 16, 17, 18, 19, 20, 21, 22] rfl rfl (by decide) (rd0 (vx := [(a4, .inl (G.2 0, 5, .inl (fun iX => iI ((MD iX : Nat) : Int))))]) hP [8] rfl) (ap0 (vx := [(a4, .inl (G.2 0, 5, .inl (fun iX => iI ((MD iX : Nat) : Int))))]) hD [0] [8] rfl rfl (by decide)) rfl rfl hl.1 (Nat.le_of_ble_eq_true rfl) ⟨by show cells + 6 + 0 ≤ 600000; omega, by show slots + 83 + 0 ≤ 7302250; omega⟩ dL_law_293 (fun o9 w9 H locs h9 hP hD hS => ?_)
        obtain ⟨rfl, rfl⟩ := h9
        have hP : va_P G.1 vwCl (mX G m a1 a2 a3 a4 a5 a6 a7 a8 a9 a10 a11 a12 a13 a14 a15 a16 a17 a19 a20 a21 a22 a23 MR MC MW MD MY OQ KD TP LF HT WD CL FN MT DR DC CR KP z ++ (cX G x t p im sa qo wo qi wi qs wd qp wp qh wh aw ad ac ao ax (MR 0) (MC 0) (MT 0) (CR 0) (MY 0) (MD 0) MW OQ DC DR SH IM s ++ (va_pl LP f ++ imL I))) H := re_P (ws' := mX G m a1 a2 a3 a4 a5 a6 a7 a8 a9 a10 a11 a12 a13 a14 a15 a16 a17 a19 a20 a21 a22 a23 MR MC MW MD MY OQ KD TP LF HT WD CL FN MT DR DC CR KP z) hP [22, 0, 1, 2, 3, 4, 5, 6, 7, 8, 9, 10, 11, 12, 13, 14, 15, 16, 17, 18, 19, 20, 21] rfl
        have hD : va_D _ (mX G m a1 a2 a3 a4 a5 a6 a7 a8 a9 a10 a11 a12 a13 a14 a15 a16 a17 a19 a20 a21 a22 a23 MR MC MW MD MY OQ KD TP LF HT WD CL FN MT DR DC CR KP z ++ (cX G x t p im sa qo wo qi wi qs wd qp wp qh wh aw ad ac ao ax (MR 0) (MC 0) (MT 0) (CR 0) (MY 0) (MD 0) MW OQ DC DR SH IM s ++ (va_pl LP f ++ imL I))) := re_D (ws' := mX G m a1 a2 a3 a4 a5 a6 a7 a8 a9 a10 a11 a12 a13 a14 a15 a16 a17 a19 a20 a21 a22 a23 MR MC MW MD MY OQ KD TP LF HT WD CL FN MT DR DC CR KP z) hD [22, 0, 1, 2, 3, 4, 5, 6, 7, 8, 9, 10, 11, 12, 13, 14, 15, 16, 17, 18, 19, 20, 21] (by decide) rfl
        have hP := toC_P hP
        have hD := toC_D hD
        refine k_same (a := (-1)) (b := (-1)) (tgt := 885) hx hb (rfl) dL_law_296 (by decide) ?_
        exact next H locs ls ⟨t, p, im, sa, qo, wo, qi, wi, qs, wd, qp, wp, qh, wh, aw, ad, ac, ao, ax, a1, a2, a3, a4, a5, a6, a7, a8, a9, a10, a11, a12, a13, a14, a15, a16, a17, a19, a20, a21, a22, a23, LP, f, I, IM, SH, s, z, MR, MC, MW, MD, MY, OQ, KD, TP, LF, HT, WD, CL, FN, MT, DR, DC, CR, KP, hP, hD, ⟨⟨rMR, rMC, rMW, rOQ, rKD, rTP, rLF, rHT, rWD, rCL, rFN, rMT, rDR, rDC, rCR⟩, hSh, hW, hZ, (fun k hk => imR_mono (hIm k hk) pool_same (fun _ _ => rfl) (fun _ _ => rfl) (fun _ _ => rfl) (fun _ _ => rfl) (fun _ _ => rfl) (fun _ _ => rfl) (fun _ _ => rfl) (fun _ _ => rfl) (fun _ _ => rfl) (fun _ _ => rfl) (fun _ _ => rfl) (fun _ _ => rfl) (fun _ _ => rfl) (fun _ _ => rfl) (fun _ _ => rfl) (fun _ _ => rfl) (fun _ _ => rfl))⟩⟩ hS (lv_sub hl [0, 1, 2, 3] rfl)
      · exact absurd c_236 c_285
    · refine lv_iconst (v := iI (1)) hx hb dL_law_239 rfl ?_
      refine lv_goto (tgt := 244) hx hb dL_law_240 (by decide) ?_
      refine k_rwVY (rest := []) (wr := [(x, .inr (4, [.ref t, .ref p, .ref im])), (t, .inr (3, [.int (iI ((((MR 0) : Nat) : Int))), .int (iI ((((MC 0) : Nat) : Int))), .int (iI ((((MT 0) : Nat) : Int))), .int (iI ((CR 0))), .int (iI ((((MY 0) : Nat) : Int))), .int (iI ((((MD 0) : Nat) : Int))), .ref aw, .ref ad, .ref ac, .ref ao, .ref ax])), (aw, .inl (G.2 0, 4, .inl (fun iX => iI ((MW iX : Nat) : Int)))), (ad, .inl (G.2 0, 4, .inl (fun iX => iI (DR iX)))), (ac, .inl (G.2 0, 4, .inl (fun iX => iI (DC iX)))), (ao, .inl (G.2 0, 30, .inl (fun iX => iI ((OQ iX : Nat) : Int)))), (ax, .inl (G.2 2, 30, .inr (.inr (.inr (.inr SH))))), (p, .inr (1, [.ref sa, .ref qo, .ref qi, .ref qs, .ref qp, .ref qh, .int (iI (((s.2.2.2 : Nat) : Int)))])), (sa, .inl (G.2 0, 256, .inl (fun iX => iI (s.1.1 iX)))), (wi, .inl (G.2 0, 4 * 16, .inl (fun iX => iI ((s.1.2.1 iX : Nat) : Int)))), (wo, .inl (G.2 0, 16 * 16, .inl (fun iX => iI ((s.1.2.2.1 iX : Nat) : Int)))), (wd, .inl (G.2 0, 1 * 16, .inl (fun iX => iI ((s.1.2.2.2 iX : Nat) : Int)))), (wp, .inl (G.2 0, 4 * 16, .inl (fun iX => iI ((s.2.1 iX : Nat) : Int)))), (wh, .inl (G.2 0, 4 * 16, .inl (fun iX => iI ((s.2.2.1 iX : Nat) : Int)))), (qo, .inr (0, [.int (iI (16)), .ref wo])), (qi, .inr (0, [.int (iI (4)), .ref wi])), (qs, .inr (0, [.int (iI (1)), .ref wd])), (qp, .inr (0, [.int (iI (4)), .ref wp])), (qh, .inr (0, [.int (iI (4)), .ref wh])), (im, .inl (G.2 3, 4, .inr (.inr (.inr (.inr IM)))))]) (w := []) (v := []) [.int (iI (v1)), .int (iI (v2)), .int (iI (v3)), .int (iI (v4)), .int (iI (v5)), .int (iI (v6)), .int (iI (1))] ⟨hx, hb, hml, hown, hts⟩ (c_X4_shape_N lM G H.size x v1 v2 v3 v4 v5 v6 true hv (by omega) (by omega) (by omega) (by omega) (by omega) (by omega)) (cwV 7 hts gL_law_X4_shape rfl rfl rfl (by decide +kernel) ⟨Nat.le_of_ble_eq_true rfl, Nat.le_of_ble_eq_true rfl⟩) hG (va_recv hG.1 hP (ci := 4) (q0 := 0) rfl rfl) hP hD hS hA [] [0, 1, 2, 3, 4, 5, 6, 7, 8, 9, 10, 11, 12, 13, 14, 15, 16, 17, 18, 19] rfl rfl (by decide) (fun k q h => by simp at h) ap_nil rfl rfl hl.1 (Nat.le_of_ble_eq_true rfl) ⟨by show cells + 1 ≤ 600000; omega, by show slots + 7 ≤ 7302250; omega⟩ dL_law_244 (fun o9 w9 H locs h9 hP hD hS => ?_)
      obtain ⟨rfl, rfl⟩ := h9
      have hP : va_P G.1 vwCl (cX G x t p im sa qo wo qi wi qs wd qp wp qh wh aw ad ac ao ax (MR 0) (MC 0) (MT 0) (CR 0) (MY 0) (MD 0) MW OQ DC DR SH IM s ++ (va_pl LP f ++ (imL I ++ mX G m a1 a2 a3 a4 a5 a6 a7 a8 a9 a10 a11 a12 a13 a14 a15 a16 a17 a19 a20 a21 a22 a23 MR MC MW MD MY OQ KD TP LF HT WD CL FN MT DR DC CR KP z))) H := re_P (ws' := cX G x t p im sa qo wo qi wi qs wd qp wp qh wh aw ad ac ao ax (MR 0) (MC 0) (MT 0) (CR 0) (MY 0) (MD 0) MW OQ DC DR SH IM s) hP [0, 1, 2, 3, 4, 5, 6, 7, 8, 9, 10, 11, 12, 13, 14, 15, 16, 17, 18, 19] rfl
      have hD : va_D _ (cX G x t p im sa qo wo qi wi qs wd qp wp qh wh aw ad ac ao ax (MR 0) (MC 0) (MT 0) (CR 0) (MY 0) (MD 0) MW OQ DC DR SH IM s ++ (va_pl LP f ++ (imL I ++ mX G m a1 a2 a3 a4 a5 a6 a7 a8 a9 a10 a11 a12 a13 a14 a15 a16 a17 a19 a20 a21 a22 a23 MR MC MW MD MY OQ KD TP LF HT WD CL FN MT DR DC CR KP z))) := re_D (ws' := cX G x t p im sa qo wo qi wi qs wd qp wp qh wh aw ad ac ao ax (MR 0) (MC 0) (MT 0) (CR 0) (MY 0) (MD 0) MW OQ DC DR SH IM s) hD [0, 1, 2, 3, 4, 5, 6, 7, 8, 9, 10, 11, 12, 13, 14, 15, 16, 17, 18, 19] (by decide) rfl
      refine W.widen (k := cells + 6) (n := slots + 83) (by show cells + 1 ≤ cells + 6; omega) (by show slots + 7 ≤ slots + 83; omega) ?_
      refine lv_aload_n hx hb dL_law_247 rfl (lv_at hl 2 rfl) ?_
      refine lv_aload_n hx hb dL_law_248 rfl (lv_at hl 0 rfl) ?_
      refine lv_iload_n hx hb dL_law_249 rfl (lv_at hl 3 rfl) ?_
      refine lv_iconst (v := iI (1)) hx hb dL_law_250 rfl ?_
      refine k_iaddN (a := i) (b := 1) hx hb dL_law_251 ?_
      refine k_sld hx hb hX hbl hbA hS (z := i + 1) (by omega) hL dL_law_252 ?_
      rw [← e1]
      refine lv_aload_n hx hb dL_law_253 rfl (lv_at hl 0 rfl) ?_
      refine lv_iload_n hx hb dL_law_254 rfl (lv_at hl 3 rfl) ?_
      refine lv_iconst (v := iI (2)) hx hb dL_law_255 rfl ?_
      refine k_iaddN (a := i) (b := 2) hx hb dL_law_256 ?_
      refine k_sld hx hb hX hbl hbA hS (z := i + 2) (by omega) hL dL_law_257 ?_
      rw [← e2]
      refine lv_aload_n hx hb dL_law_258 rfl (lv_at hl 0 rfl) ?_
      refine lv_iload_n hx hb dL_law_259 rfl (lv_at hl 3 rfl) ?_
      refine lv_iconst (v := iI (3)) hx hb dL_law_260 rfl ?_
      refine k_iaddN (a := i) (b := 3) hx hb dL_law_261 ?_
      refine k_sld hx hb hX hbl hbA hS (z := i + 3) (by omega) hL dL_law_262 ?_
      rw [← e3]
      refine lv_aload_n hx hb dL_law_263 rfl (lv_at hl 0 rfl) ?_
      refine lv_iload_n hx hb dL_law_264 rfl (lv_at hl 3 rfl) ?_
      refine lv_iconst (v := iI (4)) hx hb dL_law_265 rfl ?_
      refine k_iaddN (a := i) (b := 4) hx hb dL_law_266 ?_
      refine k_sld hx hb hX hbl hbA hS (z := i + 4) (by omega) hL dL_law_267 ?_
      rw [← e4]
      refine lv_aload_n hx hb dL_law_268 rfl (lv_at hl 0 rfl) ?_
      refine lv_iload_n hx hb dL_law_269 rfl (lv_at hl 3 rfl) ?_
      refine lv_iconst (v := iI (5)) hx hb dL_law_270 rfl ?_
      refine k_iaddN (a := i) (b := 5) hx hb dL_law_271 ?_
      refine k_sld hx hb hX hbl hbA hS (z := i + 5) (by omega) hL dL_law_272 ?_
      rw [← e5]
      refine lv_aload_n hx hb dL_law_273 rfl (lv_at hl 0 rfl) ?_
      refine lv_iload_n hx hb dL_law_274 rfl (lv_at hl 3 rfl) ?_
      refine lv_bipush (v := iI (6)) hx hb dL_law_275 (by decide) ?_
      refine k_iaddN (a := i) (b := 6) hx hb dL_law_277 ?_
      refine k_sld hx hb hX hbl hbA hS (z := i + 6) (by omega) hL dL_law_278 ?_
      rw [← e6]
      refine lv_aload_n hx hb dL_law_279 rfl (lv_at hl 0 rfl) ?_
      refine lv_iload_n hx hb dL_law_280 rfl (lv_at hl 3 rfl) ?_
      refine lv_bipush (v := iI (7)) hx hb dL_law_281 (by decide) ?_
      refine k_iaddN (a := i) (b := 7) hx hb dL_law_283 ?_
      refine k_sld hx hb hX hbl hbA hS (z := i + 7) (by omega) hL dL_law_284 ?_
      rw [← e7]
      refine k_if_eq (a := v7) (tgt := 292) hx hb (by omega) dL_law_285 (by decide) (fun c_285 => ?_) (fun c_285 => ?_)
      · exact absurd c_285 c_236
      · refine lv_iconst (v := iI (1)) hx hb dL_law_288 rfl ?_
        refine lv_goto (tgt := 293) hx hb dL_law_289 (by decide) ?_
        have hP := toM_P hP
        have hD := toM_D hD
        refine k_rwVY (rest := [.int (iI ((-1)))]) (wr := [(a19, .inl (G.2 0, 256, .inl (fun iX => iI (z.2.1 iX)))), (a20, .inl (G.2 0, 256, .inl (fun iX => iI ((z.2.2.1 iX : Nat) : Int)))), (a21, .inl (G.2 1, 256, .inl (fun iX => iI (b2i (z.2.2.2.1 iX))))), (a22, .inl (G.2 0, 256, .inl (fun iX => iI ((z.2.2.2.2 iX : Nat) : Int)))), (a1, .inl (G.2 0, 5, .inl (fun iX => iI ((MR iX : Nat) : Int)))), (a2, .inl (G.2 0, 5, .inl (fun iX => iI ((MC iX : Nat) : Int)))), (a3, .inl (G.2 0, 20, .inl (fun iX => iI ((MW iX : Nat) : Int)))), (a4, .inl (G.2 0, 5, .inl (fun iX => iI ((MD iX : Nat) : Int)))), (a5, .inl (G.2 0, 5, .inl (fun iX => iI ((MY iX : Nat) : Int)))), (a6, .inl (G.2 0, 150, .inl (fun iX => iI ((OQ iX : Nat) : Int)))), (a7, .inl (G.2 0, 150, .inl (fun iX => iI ((KD iX : Nat) : Int)))), (a8, .inl (G.2 0, 150, .inl (fun iX => iI (TP iX)))), (a9, .inl (G.2 0, 150, .inl (fun iX => iI (LF iX)))), (a10, .inl (G.2 0, 150, .inl (fun iX => iI ((HT iX : Nat) : Int)))), (a11, .inl (G.2 0, 150, .inl (fun iX => iI ((WD iX : Nat) : Int)))), (a12, .inl (G.2 0, 150, .inl (fun iX => iI ((CL iX : Nat) : Int)))), (a13, .inl (G.2 0, 150, .inl (fun iX => iI ((FN iX : Nat) : Int)))), (a14, .inl (G.2 0, 5, .inl (fun iX => iI ((MT iX : Nat) : Int)))), (a15, .inl (G.2 0, 20, .inl (fun iX => iI (DR iX)))), (a16, .inl (G.2 0, 20, .inl (fun iX => iI (DC iX)))), (a17, .inl (G.2 0, 5, .inl (fun iX => iI (CR iX)))), (a23, .inl (G.2 1, 4, .inl (fun iX => iI (b2i (KP iX)))))]) (w := [(m, .inr (5, [.int (iI (0)), .ref a1, .ref a2, .ref a3, .ref a4, .ref a5, .ref a6, .ref a7, .ref a8, .ref a9, .ref a10, .ref a11, .ref a12, .ref a13, .ref a14, .ref a15, .ref a16, .ref a17, .int (iI (b2i (z.1))), .ref a19, .ref a20, .ref a21, .ref a22, .ref a23]))]) (v := [(a4, .inl (G.2 0, 5, .inl (fun iX => iI ((MD iX : Nat) : Int))))]) [.int (iI (v1)), .int (iI (v2)), .int (iI (v3)), .int (iI (v4)), .int (iI (v5)), .int (iI (v6)), .int (iI (1))] ⟨hx, hb, hml, hown, hts⟩ (c_X5_shape_N lM G H.size m a1 a2 a3 a4 a5 a6 a7 a8 a9 a10 a11 a12 a13 a14 a15 a16 a17 a19 a20 a21 a22 a23 z.1 v1 v2 v3 v4 v5 v6 true MD (fun q => hv q.2) (by omega) (by omega) (by omega) (by omega) (by omega) (by omega) (by omega)) (cwV 7 hts gL_law_X5_shape rfl rfl rfl (by decide +kernel) ⟨Nat.le_of_ble_eq_true rfl, Nat.le_of_ble_eq_true rfl⟩) hG (va_recv hG.1 hP (ci := 5) (q0 := 0) rfl rfl) hP hD hS hA [0] [1, 2, 3, 4, 5, 6, 7, 8, 9, 10, 11, 12, 13, 14, 15, 16, 17, 18, 19, 20, 21, 22] rfl rfl (by decide) (rd0 (vx := [(a4, .inl (G.2 0, 5, .inl (fun iX => iI ((MD iX : Nat) : Int))))]) hP [8] rfl) (ap0 (vx := [(a4, .inl (G.2 0, 5, .inl (fun iX => iI ((MD iX : Nat) : Int))))]) hD [0] [8] rfl rfl (by decide)) rfl rfl hl.1 (Nat.le_of_ble_eq_true rfl) ⟨by show cells + 6 + 0 ≤ 600000; omega, by show slots + 83 + 0 ≤ 7302250; omega⟩ dL_law_293 (fun o9 w9 H locs h9 hP hD hS => ?_)
        obtain ⟨rfl, rfl⟩ := h9
        have hP : va_P G.1 vwCl (mX G m a1 a2 a3 a4 a5 a6 a7 a8 a9 a10 a11 a12 a13 a14 a15 a16 a17 a19 a20 a21 a22 a23 MR MC MW MD MY OQ KD TP LF HT WD CL FN MT DR DC CR KP z ++ (cX G x t p im sa qo wo qi wi qs wd qp wp qh wh aw ad ac ao ax (MR 0) (MC 0) (MT 0) (CR 0) (MY 0) (MD 0) MW OQ DC DR SH IM s ++ (va_pl LP f ++ imL I))) H := re_P (ws' := mX G m a1 a2 a3 a4 a5 a6 a7 a8 a9 a10 a11 a12 a13 a14 a15 a16 a17 a19 a20 a21 a22 a23 MR MC MW MD MY OQ KD TP LF HT WD CL FN MT DR DC CR KP z) hP [22, 0, 1, 2, 3, 4, 5, 6, 7, 8, 9, 10, 11, 12, 13, 14, 15, 16, 17, 18, 19, 20, 21] rfl
        have hD : va_D _ (mX G m a1 a2 a3 a4 a5 a6 a7 a8 a9 a10 a11 a12 a13 a14 a15 a16 a17 a19 a20 a21 a22 a23 MR MC MW MD MY OQ KD TP LF HT WD CL FN MT DR DC CR KP z ++ (cX G x t p im sa qo wo qi wi qs wd qp wp qh wh aw ad ac ao ax (MR 0) (MC 0) (MT 0) (CR 0) (MY 0) (MD 0) MW OQ DC DR SH IM s ++ (va_pl LP f ++ imL I))) := re_D (ws' := mX G m a1 a2 a3 a4 a5 a6 a7 a8 a9 a10 a11 a12 a13 a14 a15 a16 a17 a19 a20 a21 a22 a23 MR MC MW MD MY OQ KD TP LF HT WD CL FN MT DR DC CR KP z) hD [22, 0, 1, 2, 3, 4, 5, 6, 7, 8, 9, 10, 11, 12, 13, 14, 15, 16, 17, 18, 19, 20, 21] (by decide) rfl
        have hP := toC_P hP
        have hD := toC_D hD
        refine k_same (a := (-1)) (b := (-1)) (tgt := 885) hx hb (rfl) dL_law_296 (by decide) ?_
        exact next H locs ls ⟨t, p, im, sa, qo, wo, qi, wi, qs, wd, qp, wp, qh, wh, aw, ad, ac, ao, ax, a1, a2, a3, a4, a5, a6, a7, a8, a9, a10, a11, a12, a13, a14, a15, a16, a17, a19, a20, a21, a22, a23, LP, f, I, IM, SH, s, z, MR, MC, MW, MD, MY, OQ, KD, TP, LF, HT, WD, CL, FN, MT, DR, DC, CR, KP, hP, hD, ⟨⟨rMR, rMC, rMW, rOQ, rKD, rTP, rLF, rHT, rWD, rCL, rFN, rMT, rDR, rDC, rCR⟩, hSh, hW, hZ, (fun k hk => imR_mono (hIm k hk) pool_same (fun _ _ => rfl) (fun _ _ => rfl) (fun _ _ => rfl) (fun _ _ => rfl) (fun _ _ => rfl) (fun _ _ => rfl) (fun _ _ => rfl) (fun _ _ => rfl) (fun _ _ => rfl) (fun _ _ => rfl) (fun _ _ => rfl) (fun _ _ => rfl) (fun _ _ => rfl) (fun _ _ => rfl) (fun _ _ => rfl) (fun _ _ => rfl) (fun _ _ => rfl))⟩⟩ hS (lv_sub hl [0, 1, 2, 3] rfl)

set_option maxHeartbeats 4000000 in
set_option maxRecDepth 100000 in
theorem law_take (lM : Launch) {pM : Program} {eM : Env} {sM : State} {mM : MethodId} {bM : List Frame} {tM : Method} {cM : Code} {b L : Nat} {xs : Nat → Int32} {G : GG} {Q : State → Prop} (C : lcx pM sM mM cM b L xs G) (hL : L ≤ 4096) (x m i cells slots : Nat) (hi : i + 8 ≤ L) (hcl : cells + 6 ≤ 600000) (hsl : slots + 83 ≤ 7302250) (next : ∀ (H : Heap) (locs : List Loc) (ls : Array Slot), INV G (fun q => sM.heap.size ≤ q) x m H → va_S (fun q => sM.heap.size ≤ q) sM.heap H locs → lv_has ls 4 [(0, .ref b), (1, .ref x), (2, .ref m), (3, .int (iI ((i : Nat) : Int)))] → W pM lM eM room_1 sM mM #[Value.ref b] bM tM cM H locs (cells + 6) (slots + 83) Q (F0 mM 885 ls [])) (H : Heap) (locs : List Loc) (ls : Array Slot) (hI : INV G (fun q => sM.heap.size ≤ q) x m H) (hS : va_S (fun q => sM.heap.size ≤ q) sM.heap H locs) (hl : lv_has ls 4 [(0, .ref b), (1, .ref x), (2, .ref m), (3, .int (iI ((i : Nat) : Int)))]) : W pM lM eM room_1 sM mM #[Value.ref b] bM tM cM H locs cells slots Q (F0 mM 301 ls []) := by
  obtain ⟨hx, hb, hml, hown, hts, hX, hbl, hG⟩ := C
  have hA : ∀ q : Nat, sM.heap.size ≤ q → (fun q => sM.heap.size ≤ q) q := fun _ h => h
  have hbA : ¬ (fun q => sM.heap.size ≤ q) b := Nat.not_le.mpr hbl
  obtain ⟨t, p, im, sa, qo, wo, qi, wi, qs, wd, qp, wp, qh, wh, aw, ad, ac, ao, ax, a1, a2, a3, a4, a5, a6, a7, a8, a9, a10, a11, a12, a13, a14, a15, a16, a17, a19, a20, a21, a22, a23, LP, f, I, IM, SH, s, z, MR, MC, MW, MD, MY, OQ, KD, TP, LF, HT, WD, CL, FN, MT, DR, DC, CR, KP, hP, hD, hO⟩ := hI
  obtain ⟨hRn, hSh, hW, hZ, hIm⟩ := hO
  obtain ⟨rMR, rMC, rMW, rOQ, rKD, rTP, rLF, rHT, rWD, rCL, rFN, rMT, rDR, rDC, rCR⟩ := hRn
  have k1 := rMR 0
  have k2 := rMC 0
  have k3 := rMT 0
  have k4 := rCR 0
  have k5 := hSh.2.2.2.2.1
  have k6 := hSh.2.2.2.2.2
  have k7 := hW.1.2.2.2.2
  obtain ⟨v1, e1⟩ : ∃ v : Int, v = (xs (i + 1)).toInt := ⟨_, rfl⟩
  have b1 : -2147483648 ≤ v1 ∧ v1 < 2147483648 := by rw [e1]; exact iI_rng _
  rcases hf : (if 0 ≤ v1 ∧ v1 ≤ 29 then SH v1.toNat else none) with _ | y
  · have hpd := plc_dead hSh (dead_of hf) rOQ
    refine lv_aload_n hx hb dL_law_301 rfl (lv_at hl 1 rfl) ?_
    refine lv_aload_n hx hb dL_law_302 rfl (lv_at hl 0 rfl) ?_
    refine lv_iload_n hx hb dL_law_303 rfl (lv_at hl 3 rfl) ?_
    refine lv_iconst (v := iI (1)) hx hb dL_law_304 rfl ?_
    refine k_iaddN (a := i) (b := 1) hx hb dL_law_305 ?_
    refine k_sld hx hb hX hbl hbA hS (z := i + 1) (by omega) hL dL_law_306 ?_
    rw [← e1]
    refine k_roV (rest := []) [.int (iI (v1))] ⟨hx, hb, hml, hown, hts⟩ (c_X4_take_N lM G x im t (MR 0) (MC 0) (MT 0) (CR 0) (MY 0) (MD 0) aw ad ac ao ax p SH v1 hf (by omega)) (cwV 1 hts gL_law_X4_take rfl rfl rfl (by decide +kernel) ⟨Nat.le_of_ble_eq_true rfl, Nat.le_of_ble_eq_true rfl⟩) hG (va_recv hG.1 hP (ci := 4) (q0 := 0) rfl rfl) (rd0 (vx := [(x, .inr (4, [.ref t, .ref p, .ref im])), (t, .inr (3, [.int (iI ((((MR 0) : Nat) : Int))), .int (iI ((((MC 0) : Nat) : Int))), .int (iI ((((MT 0) : Nat) : Int))), .int (iI ((CR 0))), .int (iI ((((MY 0) : Nat) : Int))), .int (iI ((((MD 0) : Nat) : Int))), .ref aw, .ref ad, .ref ac, .ref ao, .ref ax])), (ax, .inl (G.2 2, 30, .inr (.inr (.inr (.inr SH)))))]) hP [0, 1, 6] rfl) rfl rfl hl.1 (Nat.le_of_ble_eq_true rfl) ⟨by show cells ≤ 600000; omega, by show slots ≤ 7302250; omega⟩ dL_law_307 ?_
    refine W.widen (k := cells + 6) (n := slots + 83) (by show cells + 0 ≤ cells + 6; omega) (by show slots + 0 ≤ slots + 83; omega) ?_
    refine lv_aload_n hx hb dL_law_310 rfl (lv_at hl 2 rfl) ?_
    refine lv_aload_n hx hb dL_law_311 rfl (lv_at hl 0 rfl) ?_
    refine lv_iload_n hx hb dL_law_312 rfl (lv_at hl 3 rfl) ?_
    refine lv_iconst (v := iI (1)) hx hb dL_law_313 rfl ?_
    refine k_iaddN (a := i) (b := 1) hx hb dL_law_314 ?_
    refine k_sld hx hb hX hbl hbA hS (z := i + 1) (by omega) hL dL_law_315 ?_
    rw [← e1]
    have hP := toM_P hP
    have hD := toM_D hD
    refine k_rwVY (rest := [.int (iI (b2i false))]) (wr := [(a19, .inl (G.2 0, 256, .inl (fun iX => iI (z.2.1 iX)))), (a20, .inl (G.2 0, 256, .inl (fun iX => iI ((z.2.2.1 iX : Nat) : Int)))), (a21, .inl (G.2 1, 256, .inl (fun iX => iI (b2i (z.2.2.2.1 iX))))), (a22, .inl (G.2 0, 256, .inl (fun iX => iI ((z.2.2.2.2 iX : Nat) : Int)))), (a1, .inl (G.2 0, 5, .inl (fun iX => iI ((MR iX : Nat) : Int)))), (a2, .inl (G.2 0, 5, .inl (fun iX => iI ((MC iX : Nat) : Int)))), (a3, .inl (G.2 0, 20, .inl (fun iX => iI ((MW iX : Nat) : Int)))), (a4, .inl (G.2 0, 5, .inl (fun iX => iI ((MD iX : Nat) : Int)))), (a5, .inl (G.2 0, 5, .inl (fun iX => iI ((MY iX : Nat) : Int)))), (a6, .inl (G.2 0, 150, .inl (fun iX => iI ((OQ iX : Nat) : Int)))), (a7, .inl (G.2 0, 150, .inl (fun iX => iI ((KD iX : Nat) : Int)))), (a8, .inl (G.2 0, 150, .inl (fun iX => iI (TP iX)))), (a9, .inl (G.2 0, 150, .inl (fun iX => iI (LF iX)))), (a10, .inl (G.2 0, 150, .inl (fun iX => iI ((HT iX : Nat) : Int)))), (a11, .inl (G.2 0, 150, .inl (fun iX => iI ((WD iX : Nat) : Int)))), (a12, .inl (G.2 0, 150, .inl (fun iX => iI ((CL iX : Nat) : Int)))), (a13, .inl (G.2 0, 150, .inl (fun iX => iI ((FN iX : Nat) : Int)))), (a14, .inl (G.2 0, 5, .inl (fun iX => iI ((MT iX : Nat) : Int)))), (a15, .inl (G.2 0, 20, .inl (fun iX => iI (DR iX)))), (a16, .inl (G.2 0, 20, .inl (fun iX => iI (DC iX)))), (a17, .inl (G.2 0, 5, .inl (fun iX => iI (CR iX)))), (a23, .inl (G.2 1, 4, .inl (fun iX => iI (b2i (KP iX)))))]) (w := [(m, .inr (5, [.int (iI (0)), .ref a1, .ref a2, .ref a3, .ref a4, .ref a5, .ref a6, .ref a7, .ref a8, .ref a9, .ref a10, .ref a11, .ref a12, .ref a13, .ref a14, .ref a15, .ref a16, .ref a17, .int (iI (b2i (z.1))), .ref a19, .ref a20, .ref a21, .ref a22, .ref a23]))]) (v := [(a5, .inl (G.2 0, 5, .inl (fun iX => iI ((MY iX : Nat) : Int)))), (a6, .inl (G.2 0, 150, .inl (fun iX => iI ((OQ iX : Nat) : Int))))]) [.int (iI (v1))] ⟨hx, hb, hml, hown, hts⟩ (c_X5_take_N lM G H.size m a1 a2 a3 a4 a5 a6 a7 a8 a9 a10 a11 a12 a13 a14 a15 a16 a17 a19 a20 a21 a22 a23 z.1 v1 MY OQ hpd (by omega) rOQ (by omega)) (cwV 1 hts gL_law_X5_take rfl rfl rfl (by decide +kernel) ⟨Nat.le_of_ble_eq_true rfl, Nat.le_of_ble_eq_true rfl⟩) hG (va_recv hG.1 hP (ci := 5) (q0 := 0) rfl rfl) hP hD hS hA [0] [1, 2, 3, 4, 5, 6, 7, 8, 9, 10, 11, 12, 13, 14, 15, 16, 17, 18, 19, 20, 21, 22] rfl rfl (by decide) (rd0 (vx := [(a5, .inl (G.2 0, 5, .inl (fun iX => iI ((MY iX : Nat) : Int)))), (a6, .inl (G.2 0, 150, .inl (fun iX => iI ((OQ iX : Nat) : Int))))]) hP [9, 10] rfl) (ap0 (vx := [(a5, .inl (G.2 0, 5, .inl (fun iX => iI ((MY iX : Nat) : Int)))), (a6, .inl (G.2 0, 150, .inl (fun iX => iI ((OQ iX : Nat) : Int))))]) hD [0] [9, 10] rfl rfl (by decide)) rfl rfl hl.1 (Nat.le_of_ble_eq_true rfl) ⟨by show cells + 6 + 0 ≤ 600000; omega, by show slots + 83 + 0 ≤ 7302250; omega⟩ dL_law_316 (fun o9 w9 H locs h9 hP hD hS => ?_)
    obtain ⟨rfl, rfl⟩ := h9
    have hP : va_P G.1 vwCl (mX G m a1 a2 a3 a4 a5 a6 a7 a8 a9 a10 a11 a12 a13 a14 a15 a16 a17 a19 a20 a21 a22 a23 MR MC MW MD MY OQ KD TP LF HT WD CL FN MT DR DC CR KP z ++ (cX G x t p im sa qo wo qi wi qs wd qp wp qh wh aw ad ac ao ax (MR 0) (MC 0) (MT 0) (CR 0) (MY 0) (MD 0) MW OQ DC DR SH IM s ++ (va_pl LP f ++ imL I))) H := re_P (ws' := mX G m a1 a2 a3 a4 a5 a6 a7 a8 a9 a10 a11 a12 a13 a14 a15 a16 a17 a19 a20 a21 a22 a23 MR MC MW MD MY OQ KD TP LF HT WD CL FN MT DR DC CR KP z) hP [22, 0, 1, 2, 3, 4, 5, 6, 7, 8, 9, 10, 11, 12, 13, 14, 15, 16, 17, 18, 19, 20, 21] rfl
    have hD : va_D _ (mX G m a1 a2 a3 a4 a5 a6 a7 a8 a9 a10 a11 a12 a13 a14 a15 a16 a17 a19 a20 a21 a22 a23 MR MC MW MD MY OQ KD TP LF HT WD CL FN MT DR DC CR KP z ++ (cX G x t p im sa qo wo qi wi qs wd qp wp qh wh aw ad ac ao ax (MR 0) (MC 0) (MT 0) (CR 0) (MY 0) (MD 0) MW OQ DC DR SH IM s ++ (va_pl LP f ++ imL I))) := re_D (ws' := mX G m a1 a2 a3 a4 a5 a6 a7 a8 a9 a10 a11 a12 a13 a14 a15 a16 a17 a19 a20 a21 a22 a23 MR MC MW MD MY OQ KD TP LF HT WD CL FN MT DR DC CR KP z) hD [22, 0, 1, 2, 3, 4, 5, 6, 7, 8, 9, 10, 11, 12, 13, 14, 15, 16, 17, 18, 19, 20, 21] (by decide) rfl
    have hP := toC_P hP
    have hD := toC_D hD
    refine k_same (a := b2i false) (b := b2i false) (tgt := 885) hx hb (rfl) dL_law_319 (by decide) ?_
    exact next H locs ls ⟨t, p, im, sa, qo, wo, qi, wi, qs, wd, qp, wp, qh, wh, aw, ad, ac, ao, ax, a1, a2, a3, a4, a5, a6, a7, a8, a9, a10, a11, a12, a13, a14, a15, a16, a17, a19, a20, a21, a22, a23, LP, f, I, IM, SH, s, z, MR, MC, MW, MD, MY, OQ, KD, TP, LF, HT, WD, CL, FN, MT, DR, DC, CR, KP, hP, hD, ⟨⟨rMR, rMC, rMW, rOQ, rKD, rTP, rLF, rHT, rWD, rCL, rFN, rMT, rDR, rDC, rCR⟩, hSh, hW, hZ, (fun k hk => imR_mono (hIm k hk) pool_same (fun _ _ => rfl) (fun _ _ => rfl) (fun _ _ => rfl) (fun _ _ => rfl) (fun _ _ => rfl) (fun _ _ => rfl) (fun _ _ => rfl) (fun _ _ => rfl) (fun _ _ => rfl) (fun _ _ => rfl) (fun _ _ => rfl) (fun _ _ => rfl) (fun _ _ => rfl) (fun _ _ => rfl) (fun _ _ => rfl) (fun _ _ => rfl) (fun _ _ => rfl))⟩⟩ hS (lv_sub hl [0, 1, 2, 3] rfl)
  · obtain ⟨n, rfl, hn, hy⟩ := live_of hf
    obtain ⟨k, hk, ek, hpl⟩ := plc_live hSh hn hy
    obtain ⟨hyL, hyf, hyv⟩ := hSh.1 n y hn hy
    have hym := pl_mem hyL hyf
    refine lv_aload_n hx hb dL_law_301 rfl (lv_at hl 1 rfl) ?_
    refine lv_aload_n hx hb dL_law_302 rfl (lv_at hl 0 rfl) ?_
    refine lv_iload_n hx hb dL_law_303 rfl (lv_at hl 3 rfl) ?_
    refine lv_iconst (v := iI (1)) hx hb dL_law_304 rfl ?_
    refine k_iaddN (a := i) (b := 1) hx hb dL_law_305 ?_
    refine k_sld hx hb hX hbl hbA hS (z := i + 1) (by omega) hL dL_law_306 ?_
    rw [← e1]
    refine k_rwVY (rest := []) (wr := [(x, .inr (4, [.ref t, .ref p, .ref im])), (aw, .inl (G.2 0, 4, .inl (fun iX => iI ((MW iX : Nat) : Int)))), (ad, .inl (G.2 0, 4, .inl (fun iX => iI (DR iX)))), (ac, .inl (G.2 0, 4, .inl (fun iX => iI (DC iX)))), (sa, .inl (G.2 0, 256, .inl (fun iX => iI (s.1.1 iX)))), (wi, .inl (G.2 0, 4 * 16, .inl (fun iX => iI ((s.1.2.1 iX : Nat) : Int)))), (wo, .inl (G.2 0, 16 * 16, .inl (fun iX => iI ((s.1.2.2.1 iX : Nat) : Int)))), (wd, .inl (G.2 0, 1 * 16, .inl (fun iX => iI ((s.1.2.2.2 iX : Nat) : Int)))), (wp, .inl (G.2 0, 4 * 16, .inl (fun iX => iI ((s.2.1 iX : Nat) : Int)))), (wh, .inl (G.2 0, 4 * 16, .inl (fun iX => iI ((s.2.2.1 iX : Nat) : Int)))), (qo, .inr (0, [.int (iI (16)), .ref wo])), (qi, .inr (0, [.int (iI (4)), .ref wi])), (qs, .inr (0, [.int (iI (1)), .ref wd])), (qp, .inr (0, [.int (iI (4)), .ref wp])), (qh, .inr (0, [.int (iI (4)), .ref wh])), (im, .inl (G.2 3, 4, .inr (.inr (.inr (.inr IM)))))]) (w := [(t, .inr (3, [.int (iI ((((MR 0) : Nat) : Int))), .int (iI ((((MC 0) : Nat) : Int))), .int (iI ((((MT 0) : Nat) : Int))), .int (iI ((CR 0))), .int (iI ((((MY 0) : Nat) : Int))), .int (iI ((((MD 0) : Nat) : Int))), .ref aw, .ref ad, .ref ac, .ref ao, .ref ax])), (ao, .inl (G.2 0, 30, .inl (fun iX => iI ((OQ iX : Nat) : Int)))), (ax, .inl (G.2 2, 30, .inr (.inr (.inr (.inr SH))))), (p, .inr (1, [.ref sa, .ref qo, .ref qi, .ref qs, .ref qp, .ref qh, .int (iI ((((s.2.2.2) : Nat) : Int)))]))]) (v := [(x, .inr (4, [.ref t, .ref p, .ref im]))]) [.int (iI (((n : Nat) : Int)))] ⟨hx, hb, hml, hown, hts⟩ (c_X4_take lM G H.size x im t (MR 0) (MC 0) (MT 0) (CR 0) (MY 0) (MD 0) aw ad ac ao ax p sa qo qi qs qp qh s.2.2.2 OQ SH n k y hy hpl (by omega) (by omega) rOQ (by omega) (by omega)) (cwV 1 hts gL_law_X4_take rfl rfl rfl (by decide +kernel) ⟨Nat.le_of_ble_eq_true rfl, Nat.le_of_ble_eq_true rfl⟩) hG (va_recv hG.1 hP (ci := 4) (q0 := 0) rfl rfl) hP hD hS hA [1, 5, 6, 7] [0, 2, 3, 4, 8, 9, 10, 11, 12, 13, 14, 15, 16, 17, 18, 19] rfl rfl (by decide) (rd0 (vx := [(x, .inr (4, [.ref t, .ref p, .ref im]))]) hP [0] rfl) (ap0 (vx := [(x, .inr (4, [.ref t, .ref p, .ref im]))]) hD [1, 5, 6, 7] [0] rfl rfl (by decide)) rfl rfl hl.1 (Nat.le_of_ble_eq_true rfl) ⟨by show cells + 0 ≤ 600000; omega, by show slots + 0 ≤ 7302250; omega⟩ dL_law_307 (fun o9 w9 H locs h9 hP hD hS => ?_)
    obtain ⟨rfl, rfl⟩ := h9
    have hP : va_P G.1 vwCl (cX G x t p im sa qo wo qi wi qs wd qp wp qh wh aw ad ac ao ax (MR 0) (MC 0) (MT 0) (CR 0) (va_up MY 0 (MY 0 - 1) 0) (MD 0) MW (shD OQ k (MY 0)) DC DR (va_up SH n none) IM (kp s 0) ++ (va_pl LP f ++ (imL I ++ mX G m a1 a2 a3 a4 a5 a6 a7 a8 a9 a10 a11 a12 a13 a14 a15 a16 a17 a19 a20 a21 a22 a23 MR MC MW MD MY OQ KD TP LF HT WD CL FN MT DR DC CR KP z))) H := re_P (ws' := cX G x t p im sa qo wo qi wi qs wd qp wp qh wh aw ad ac ao ax (MR 0) (MC 0) (MT 0) (CR 0) (va_up MY 0 (MY 0 - 1) 0) (MD 0) MW (shD OQ k (MY 0)) DC DR (va_up SH n none) IM (kp s 0)) hP [0, 16, 1, 2, 3, 17, 18, 19, 4, 5, 6, 7, 8, 9, 10, 11, 12, 13, 14, 15] rfl
    have hD : va_D _ (cX G x t p im sa qo wo qi wi qs wd qp wp qh wh aw ad ac ao ax (MR 0) (MC 0) (MT 0) (CR 0) (va_up MY 0 (MY 0 - 1) 0) (MD 0) MW (shD OQ k (MY 0)) DC DR (va_up SH n none) IM (kp s 0) ++ (va_pl LP f ++ (imL I ++ mX G m a1 a2 a3 a4 a5 a6 a7 a8 a9 a10 a11 a12 a13 a14 a15 a16 a17 a19 a20 a21 a22 a23 MR MC MW MD MY OQ KD TP LF HT WD CL FN MT DR DC CR KP z))) := re_D (ws' := cX G x t p im sa qo wo qi wi qs wd qp wp qh wh aw ad ac ao ax (MR 0) (MC 0) (MT 0) (CR 0) (va_up MY 0 (MY 0 - 1) 0) (MD 0) MW (shD OQ k (MY 0)) DC DR (va_up SH n none) IM (kp s 0)) hD [0, 16, 1, 2, 3, 17, 18, 19, 4, 5, 6, 7, 8, 9, 10, 11, 12, 13, 14, 15] (by decide) rfl
    refine W.widen (k := cells + 6) (n := slots + 83) (by show cells + 0 ≤ cells + 6; omega) (by show slots + 0 ≤ slots + 83; omega) ?_
    refine lv_aload_n hx hb dL_law_310 rfl (lv_at hl 2 rfl) ?_
    refine lv_aload_n hx hb dL_law_311 rfl (lv_at hl 0 rfl) ?_
    refine lv_iload_n hx hb dL_law_312 rfl (lv_at hl 3 rfl) ?_
    refine lv_iconst (v := iI (1)) hx hb dL_law_313 rfl ?_
    refine k_iaddN (a := i) (b := 1) hx hb dL_law_314 ?_
    refine k_sld hx hb hX hbl hbA hS (z := i + 1) (by omega) hL dL_law_315 ?_
    rw [← e1]
    have hP := toM_P hP
    have hD := toM_D hD
    refine k_rwVY (rest := [.int (iI (b2i true))]) (wr := [(a19, .inl (G.2 0, 256, .inl (fun iX => iI (z.2.1 iX)))), (a20, .inl (G.2 0, 256, .inl (fun iX => iI ((z.2.2.1 iX : Nat) : Int)))), (a21, .inl (G.2 1, 256, .inl (fun iX => iI (b2i (z.2.2.2.1 iX))))), (a22, .inl (G.2 0, 256, .inl (fun iX => iI ((z.2.2.2.2 iX : Nat) : Int)))), (a1, .inl (G.2 0, 5, .inl (fun iX => iI ((MR iX : Nat) : Int)))), (a2, .inl (G.2 0, 5, .inl (fun iX => iI ((MC iX : Nat) : Int)))), (a3, .inl (G.2 0, 20, .inl (fun iX => iI ((MW iX : Nat) : Int)))), (a4, .inl (G.2 0, 5, .inl (fun iX => iI ((MD iX : Nat) : Int)))), (a7, .inl (G.2 0, 150, .inl (fun iX => iI ((KD iX : Nat) : Int)))), (a8, .inl (G.2 0, 150, .inl (fun iX => iI (TP iX)))), (a9, .inl (G.2 0, 150, .inl (fun iX => iI (LF iX)))), (a10, .inl (G.2 0, 150, .inl (fun iX => iI ((HT iX : Nat) : Int)))), (a11, .inl (G.2 0, 150, .inl (fun iX => iI ((WD iX : Nat) : Int)))), (a12, .inl (G.2 0, 150, .inl (fun iX => iI ((CL iX : Nat) : Int)))), (a13, .inl (G.2 0, 150, .inl (fun iX => iI ((FN iX : Nat) : Int)))), (a14, .inl (G.2 0, 5, .inl (fun iX => iI ((MT iX : Nat) : Int)))), (a15, .inl (G.2 0, 20, .inl (fun iX => iI (DR iX)))), (a16, .inl (G.2 0, 20, .inl (fun iX => iI (DC iX)))), (a17, .inl (G.2 0, 5, .inl (fun iX => iI (CR iX)))), (a23, .inl (G.2 1, 4, .inl (fun iX => iI (b2i (KP iX)))))]) (w := [(m, .inr (5, [.int (iI (0)), .ref a1, .ref a2, .ref a3, .ref a4, .ref a5, .ref a6, .ref a7, .ref a8, .ref a9, .ref a10, .ref a11, .ref a12, .ref a13, .ref a14, .ref a15, .ref a16, .ref a17, .int (iI (b2i (z.1))), .ref a19, .ref a20, .ref a21, .ref a22, .ref a23])), (a5, .inl (G.2 0, 5, .inl (fun iX => iI ((MY iX : Nat) : Int)))), (a6, .inl (G.2 0, 150, .inl (fun iX => iI ((OQ iX : Nat) : Int))))]) (v := []) [.int (iI (((n : Nat) : Int)))] ⟨hx, hb, hml, hown, hts⟩ (c_X5_take lM G H.size m a1 a2 a3 a4 a5 a6 a7 a8 a9 a10 a11 a12 a13 a14 a15 a16 a17 a19 a20 a21 a22 a23 z.1 n k MY OQ hpl (by omega) (by omega) rOQ (by omega)) (cwV 1 hts gL_law_X5_take rfl rfl rfl (by decide +kernel) ⟨Nat.le_of_ble_eq_true rfl, Nat.le_of_ble_eq_true rfl⟩) hG (va_recv hG.1 hP (ci := 5) (q0 := 0) rfl rfl) hP hD hS hA [0, 9, 10] [1, 2, 3, 4, 5, 6, 7, 8, 11, 12, 13, 14, 15, 16, 17, 18, 19, 20, 21, 22] rfl rfl (by decide) (fun k q h => by simp at h) ap_nil rfl rfl hl.1 (Nat.le_of_ble_eq_true rfl) ⟨by show cells + 6 + 0 ≤ 600000; omega, by show slots + 83 + 0 ≤ 7302250; omega⟩ dL_law_316 (fun o9 w9 H locs h9 hP hD hS => ?_)
    obtain ⟨rfl, rfl⟩ := h9
    have hP : va_P G.1 vwCl (mX G m a1 a2 a3 a4 a5 a6 a7 a8 a9 a10 a11 a12 a13 a14 a15 a16 a17 a19 a20 a21 a22 a23 MR MC MW MD (va_up MY 0 (MY 0 - 1)) (shD OQ k (MY 0)) KD TP LF HT WD CL FN MT DR DC CR KP (false, z.2) ++ (cX G x t p im sa qo wo qi wi qs wd qp wp qh wh aw ad ac ao ax (MR 0) (MC 0) (MT 0) (CR 0) (va_up MY 0 (MY 0 - 1) 0) (MD 0) MW (shD OQ k (MY 0)) DC DR (va_up SH n none) IM (kp s 0) ++ (va_pl LP f ++ imL I))) H := re_P (ws' := mX G m a1 a2 a3 a4 a5 a6 a7 a8 a9 a10 a11 a12 a13 a14 a15 a16 a17 a19 a20 a21 a22 a23 MR MC MW MD (va_up MY 0 (MY 0 - 1)) (shD OQ k (MY 0)) KD TP LF HT WD CL FN MT DR DC CR KP (false, z.2)) hP [20, 0, 1, 2, 3, 4, 5, 6, 7, 21, 22, 8, 9, 10, 11, 12, 13, 14, 15, 16, 17, 18, 19] rfl
    have hD : va_D _ (mX G m a1 a2 a3 a4 a5 a6 a7 a8 a9 a10 a11 a12 a13 a14 a15 a16 a17 a19 a20 a21 a22 a23 MR MC MW MD (va_up MY 0 (MY 0 - 1)) (shD OQ k (MY 0)) KD TP LF HT WD CL FN MT DR DC CR KP (false, z.2) ++ (cX G x t p im sa qo wo qi wi qs wd qp wp qh wh aw ad ac ao ax (MR 0) (MC 0) (MT 0) (CR 0) (va_up MY 0 (MY 0 - 1) 0) (MD 0) MW (shD OQ k (MY 0)) DC DR (va_up SH n none) IM (kp s 0) ++ (va_pl LP f ++ imL I))) := re_D (ws' := mX G m a1 a2 a3 a4 a5 a6 a7 a8 a9 a10 a11 a12 a13 a14 a15 a16 a17 a19 a20 a21 a22 a23 MR MC MW MD (va_up MY 0 (MY 0 - 1)) (shD OQ k (MY 0)) KD TP LF HT WD CL FN MT DR DC CR KP (false, z.2)) hD [20, 0, 1, 2, 3, 4, 5, 6, 7, 21, 22, 8, 9, 10, 11, 12, 13, 14, 15, 16, 17, 18, 19] (by decide) rfl
    have hP := toC_P hP
    have hD := toC_D hD
    refine k_same (a := b2i true) (b := b2i true) (tgt := 885) hx hb (rfl) dL_law_319 (by decide) ?_
    exact next H locs ls ⟨t, p, im, sa, qo, wo, qi, wi, qs, wd, qp, wp, qh, wh, aw, ad, ac, ao, ax, a1, a2, a3, a4, a5, a6, a7, a8, a9, a10, a11, a12, a13, a14, a15, a16, a17, a19, a20, a21, a22, a23, LP, f, I, IM, va_up SH n none, kp s 0, (false, z.2), MR, MC, MW, MD, va_up MY 0 (MY 0 - 1), shD OQ k (MY 0), KD, TP, LF, HT, WD, CL, FN, MT, DR, DC, CR, KP, hP, hD, ⟨⟨rMR, rMC, rMW, (shD_all (P := fun y => y < 30) rOQ), rKD, rTP, rLF, rHT, rWD, rCL, rFN, rMT, rDR, rDC, rCR⟩, shR_take hSh hn hk ek, wV_0 hW.1, zV_f hZ.1, (fun k hk => imR_mono (hIm k hk) pool_same (fun _ _ => rfl) (fun _ _ => rfl) (fun _ _ => rfl) (fun _ _ => rfl) (sl_up (b := 1) (by omega)) (sl_shD (by omega)) (fun _ _ => rfl) (fun _ _ => rfl) (fun _ _ => rfl) (fun _ _ => rfl) (fun _ _ => rfl) (fun _ _ => rfl) (fun _ _ => rfl) (fun _ _ => rfl) (fun _ _ => rfl) (fun _ _ => rfl) (fun _ _ => rfl))⟩⟩ hS (lv_sub hl [0, 1, 2, 3] rfl)
