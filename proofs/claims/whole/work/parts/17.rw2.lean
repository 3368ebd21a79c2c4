theorem mx0_eq (z : Int) : max 0 z = ((mx0 z : Nat) : Int) := by unfold mx0; omega
theorem span_eq {re z : Int} {len lim : Nat} (h : re = min (lim : Int) (z + (len : Int))) : spanN z len lim = re.toNat - mx0 z := by rw [h, spanN]
theorem span_f {re z : Int} {len lim : Nat} (h : re = min (lim : Int) (z + (len : Int))) (hl : lim ≤ 16) (hz : -16 ≤ z ∧ z ≤ 31) (hlen : 1 ≤ len ∧ len ≤ 32) : re ≤ ((mx0 z : Nat) : Int) + ((spanN z len lim : Nat) : Int) ∧ (spanN z len lim = 0 ∨ ((mx0 z : Nat) : Int) + ((spanN z len lim : Nat) : Int) = re) ∧ (-100 ≤ re ∧ re ≤ (lim : Int)) ∧ mx0 z ≤ 31 := by
  have e := span_eq h
  have e2 := mx0_eq z
  rw [e]
  omega
abbrev ShT : Type := Nat × Int × Int × Nat × Nat × Nat × Bool
abbrev shE (v : ShT) : va_E := .inr (2, [.int (iI ((v.1 : Nat) : Int)), .int (iI v.2.1), .int (iI v.2.2.1), .int (iI ((v.2.2.2.1 : Nat) : Int)), .int (iI ((v.2.2.2.2.1 : Nat) : Int)), .int (iI ((v.2.2.2.2.2.1 : Nat) : Int)), .int (iI (b2i v.2.2.2.2.2.2))])
abbrev shV (v : ShT) : Prop := v.1 ≤ 3 ∧ (-16 ≤ v.2.1 ∧ v.2.1 ≤ 31) ∧ (-16 ≤ v.2.2.1 ∧ v.2.2.1 ≤ 31) ∧ (1 ≤ v.2.2.2.1 ∧ v.2.2.2.1 ≤ 32) ∧ (1 ≤ v.2.2.2.2.1 ∧ v.2.2.2.2.1 ≤ 32) ∧ v.2.2.2.2.2.1 < 16
/-- the shapes of a sheet stand in the pool -/
def shOK (LP : List Nat) (f : Nat → va_E) (SH : Nat → Option Nat) (SV : Nat → ShT) : Prop := ∀ i y, i < 30 → SH i = some y → y ∈ LP ∧ f y = shE (SV i) ∧ shV (SV i)
theorem pool1 {G : GG} {A : Nat → Prop} {v : va_W} {H : Heap} {q : Nat × va_E} (h : va_P G.1 vwCl v H) (hV : roV A H.size v) (k : Nat) (hk : v[k]? = some q) : va_P G.1 vwCl [q] H ∧ roV A H.size [q] := by
  refine ⟨fun j x hx => ?_, fun j x hx => ?_⟩
  · have hj : j = 0 := by
      have := (List.getElem?_eq_some_iff.mp hx).1
      simp at this
      omega
    subst hj
    cases hx
    exact h k _ hk
  · have hj : j = 0 := by
      have := (List.getElem?_eq_some_iff.mp hx).1
      simp at this
      omega
    subst hj
    cases hx
    exact hV k _ hk
def dStep (SH : Nat → Option Nat) (SV : Nat → ShT) (rw cm : Nat) (n : Nat) (x : PSt) : PSt := match SH n with
  | none => x
  | some _ => dShp (n : Int) (SV n).1 (SV n).2.1 (SV n).2.2.1 (SV n).2.2.2.1 (SV n).2.2.2.2.1 (SV n).2.2.2.2.2.1 (SV n).2.2.2.2.2.2 rw cm x
def dPic (OR : Nat → Nat) (SH : Nat → Option Nat) (SV : Nat → ShT) (rw cm ly : Nat) : Nat → PSt
  | 0 => (fun _ => -1, fun _ => 0, fun _ => 0, fun _ => 0)
  | m + 1 => dStep SH SV rw cm (OR (ly - 1 - m)) (dPic OR SH SV rw cm ly m)
theorem foldN_inv {σ : Type} {P : σ → Prop} {f : Nat → σ → σ} {a : Nat} {x : σ} (h0 : P x) (hs : ∀ i y, P y → P (f i y)) : ∀ k, P (foldN f a x k)
  | 0 => h0
  | k + 1 => hs _ _ (foldN_inv h0 hs k)
def seenB (x : PSt) : Prop := ∀ k, -1 ≤ x.1 k ∧ x.1 k ≤ 29
theorem seenB_mk {n : Int} (hn : -1 ≤ n ∧ n ≤ 29) {cl : Nat} {fn : Bool} {r c : Nat} {x : PSt} (h : seenB x) : seenB (mkS n cl fn r c x) := by
  intro k
  show -1 ≤ va_up x.1 (r * 16 + c) n k ∧ va_up x.1 (r * 16 + c) n k ≤ 29
  unfold va_up
  split
  · exact hn
  · exact h k
theorem seenB_shp {n : Int} (hn : -1 ≤ n ∧ n ≤ 29) {kd : Nat} {tp lf : Int} {ht wd cl : Nat} {fn : Bool} {rw cm : Nat} {x : PSt} (h : seenB x) : seenB (dShp n kd tp lf ht wd cl fn rw cm x) := by
  refine foldN_inv h (fun i y hy => foldN_inv hy (fun j z hz => ?_) _) _
  unfold dCol
  split
  · exact seenB_mk hn hz
  · exact hz
theorem seenB_pic {OR : Nat → Nat} (hO : ∀ k, OR k < 30) {SH : Nat → Option Nat} {SV : Nat → ShT} {rw cm ly : Nat} : ∀ m, seenB (dPic OR SH SV rw cm ly m)
  | 0 => fun k => by show -1 ≤ (-1 : Int) ∧ (-1 : Int) ≤ 29; omega
  | m + 1 => by
    have h1 := seenB_pic hO (SH := SH) (SV := SV) (rw := rw) (cm := cm) (ly := ly) m
    show seenB (dStep SH SV rw cm (OR (ly - 1 - m)) (dPic OR SH SV rw cm ly m))
    unfold dStep
    split
    · exact h1
    · exact seenB_shp (by have := hO (ly - 1 - m); omega) h1
def rmX1_mark : Room := { frames := 2, cells := 0, slots := 0, locals := 45 }
set_option maxRecDepth 20000 in
theorem inX1_X1_mark : ∀ w ∈ wsX10, w ∈ wsX1_mark := by decide +kernel
set_option maxRecDepth 20000 in
theorem inX2_X1_mark : ∀ w ∈ wsX20, w ∈ wsX1_mark := by decide +kernel
set_option maxHeartbeats 4000000 in
set_option maxRecDepth 100000 in
theorem c_X1_mark (lM : Launch) (G : GG) (sz : Nat) (p sa qo qi qs qp qh dn : Nat) (wo wi wd y r c : Nat) (n : Int) (kd : Nat) (tp lf : Int) (ht wt cl : Nat) (fn : Bool) (x : PSt) (h1 : r < 16) (h2 : c < 16) (h3 : cl < 16) : Met lM yX1_mark wsX1_mark rmX1_mark (rwP G [.ref p, .int (iI (((r : Nat) : Int))), .int (iI (((c : Nat) : Int))), .int (iI (n)), .ref y] [(sa, .inl (G.2 0, 256, .inl (fun iX => iI (x.1 iX)))), (wi, .inl (G.2 0, 4 * 16, .inl (fun iX => iI ((x.2.1 iX : Nat) : Int)))), (wo, .inl (G.2 0, 16 * 16, .inl (fun iX => iI ((x.2.2.1 iX : Nat) : Int)))), (wd, .inl (G.2 0, 1 * 16, .inl (fun iX => iI ((x.2.2.2 iX : Nat) : Int))))] [(p, .inr (1, [.ref sa, .ref qo, .ref qi, .ref qs, .ref qp, .ref qh, .int (iI (((dn : Nat) : Int)))])), (qo, .inr (0, [.int (iI (16)), .ref wo])), (qi, .inr (0, [.int (iI (4)), .ref wi])), (qs, .inr (0, [.int (iI (1)), .ref wd])), (y, .inr (2, [.int (iI (((kd : Nat) : Int))), .int (iI (tp)), .int (iI (lf)), .int (iI (((ht : Nat) : Int))), .int (iI (((wt : Nat) : Int))), .int (iI (((cl : Nat) : Int))), .int (iI (b2i fn))]))] sz) (rwA G (va_A [(sa, .inl (G.2 0, 256, .inl (fun iX => iI (x.1 iX)))), (wi, .inl (G.2 0, 4 * 16, .inl (fun iX => iI ((x.2.1 iX : Nat) : Int)))), (wo, .inl (G.2 0, 16 * 16, .inl (fun iX => iI ((x.2.2.1 iX : Nat) : Int)))), (wd, .inl (G.2 0, 1 * 16, .inl (fun iX => iI ((x.2.2.2 iX : Nat) : Int))))] sz) (det none [(sa, .inl (G.2 0, 256, .inl (fun iX => iI (((mkS n cl fn r c x).1) iX)))), (wi, .inl (G.2 0, 4 * 16, .inl (fun iX => iI ((((mkS n cl fn r c x).2.1) iX : Nat) : Int)))), (wo, .inl (G.2 0, 16 * 16, .inl (fun iX => iI ((((mkS n cl fn r c x).2.2.1) iX : Nat) : Int)))), (wd, .inl (G.2 0, 1 * 16, .inl (fun iX => iI ((((mkS n cl fn r c x).2.2.2) iX : Nat) : Int))))])) 0 0 (va_A [(sa, .inl (G.2 0, 256, .inl (fun iX => iI (x.1 iX)))), (wi, .inl (G.2 0, 4 * 16, .inl (fun iX => iI ((x.2.1 iX : Nat) : Int)))), (wo, .inl (G.2 0, 16 * 16, .inl (fun iX => iI ((x.2.2.1 iX : Nat) : Int)))), (wd, .inl (G.2 0, 1 * 16, .inl (fun iX => iI ((x.2.2.2 iX : Nat) : Int))))] sz) := by
  refine rw_of (cc := cX1_mark) (maxL := 7) (ret := none) (by decide) rfl (Nat.le_of_ble_eq_true rfl) ?_
  intro pM eM sM mM bM tM cM hx hb hr hts hown hlocks hml hin hG A hA hP hD hS hV0 hVA ls hl
  have hown : sM.vm.findClass RX1 = some mM.cls := hown
  have hl : lv_has ls 7 [(0, .ref p), (1, .int (iI (((r : Nat) : Int)))), (2, .int (iI (((c : Nat) : Int)))), (3, .int (iI (n))), (4, .ref y)] := hl
  refine lv_iload_n hx hb dX1_mark_0 rfl (lv_at hl 1 rfl) ?_
  refine lv_iload_n hx hb dX1_mark_1 rfl (lv_at hl 2 rfl) ?_
  refine k_roS (rest := []) [.int (iI (((r : Nat) : Int))), .int (iI (((c : Nat) : Int)))] ⟨hx, hb, hml, hown, hts⟩ (c_X1_isInGrid lM G ((r : Nat) : Int) ((c : Nat) : Int) (by omega) (by omega)) (va_cwS 2 hts gX1_mark_X1_isInGrid rfl rfl rfl (by decide +kernel) ⟨Nat.le_of_ble_eq_true rfl, Nat.le_of_ble_eq_true rfl⟩) hG (fun k q h => by simp at h) rfl rfl hl.1 (Nat.le_of_ble_eq_true rfl) ⟨Nat.zero_le _, Nat.zero_le _⟩ dX1_mark_2 ?_
  refine k_ifnD (P := (0 ≤ ((r : Nat) : Int) ∧ ((r : Nat) : Int) ≤ 15) ∧ (0 ≤ ((c : Nat) : Int) ∧ ((c : Nat) : Int) ≤ 15)) (tgt := 9) hx hb dX1_mark_5 (by decide) (fun c_5 => ?_) (fun c_5 => ?_)
  · refine lv_aload_n hx hb dX1_mark_9 rfl (lv_at hl 0 rfl) ?_
    refine va_get (D := G.1) (ci := 1) (v := .ref sa) (C := RX1) (T := TX1) (N := 7) hx hb hts inX1_X1_mark hown hG.1 (rk hV0 hVA hS) 0 rfl rfl 0 (by decide) (hts (.fieldLink RX1 9 "InkOverInk$Press" "seen" "[I") (by decide +kernel)) (fun _ h9 => h9) rfl dX1_mark_10 ?_
    refine lv_iload_n hx hb dX1_mark_13 rfl (lv_at hl 1 rfl) ?_
    refine lv_bipush (v := iI (16)) hx hb dX1_mark_14 (by decide) ?_
    refine k_imulN (a := r) (b := 16) hx hb dX1_mark_16 ?_
    refine lv_iload_n hx hb dX1_mark_17 rfl (lv_at hl 2 rfl) ?_
    refine k_iaddN (a := (r * 16)) (b := c) hx hb dX1_mark_18 ?_
    refine lv_iload_n hx hb dX1_mark_19 rfl (lv_at hl 3 rfl) ?_
    refine k_iastN (F := x.1) (z := (r * 16) + c) (v := n) hx hb hG hP hD hS 0 [(sa, .inl (G.2 0, 256, .inl (fun iX => iI ((va_up x.1 ((r * 16) + c) n) iX)))), (wi, .inl (G.2 0, 4 * 16, .inl (fun iX => iI ((x.2.1 iX : Nat) : Int)))), (wo, .inl (G.2 0, 16 * 16, .inl (fun iX => iI ((x.2.2.1 iX : Nat) : Int)))), (wd, .inl (G.2 0, 1 * 16, .inl (fun iX => iI ((x.2.2.2 iX : Nat) : Int))))] rfl (by omega) (by decide) rfl dX1_mark_20 (fun H locs hP hD hS => ?_)
    refine lv_iconst (v := iI (1)) hx hb dX1_mark_21 rfl ?_
    refine lv_iload_n hx hb dX1_mark_22 rfl (lv_at hl 2 rfl) ?_
    refine k_ishl (a := 1) (b := c) hx hb (by omega) dX1_mark_23 ?_
    refine lv_istore (lv' := [(5, .int (iI (((1 <<< c : Nat) : Int)))), (0, .ref p), (1, .int (iI (((r : Nat) : Int)))), (2, .int (iI (((c : Nat) : Int)))), (3, .int (iI (n))), (4, .ref y)]) hx hb dX1_mark_24 hl (by decide) rfl (fun ls hl => ?_)
    refine lv_iconst (v := iI (0)) hx hb dX1_mark_26 rfl ?_
    refine lv_istore (lv' := [(6, .int (iI (0))), (5, .int (iI (((1 <<< c : Nat) : Int)))), (0, .ref p), (1, .int (iI (((r : Nat) : Int)))), (2, .int (iI (((c : Nat) : Int)))), (3, .int (iI (n))), (4, .ref y)]) hx hb dX1_mark_27 hl (by decide) rfl (fun ls hl => ?_)
    have loop_29 : ∀ (n_29 : Nat) (i : Nat) (E : Nat → Nat), (i ≤ 4) → (E = inkJ x.2.1 cl r (1 <<< c) i) → 5 - i ≤ n_29 → ∀ (H : Heap) (locs : List Loc), va_P G.1 vwCl [(sa, .inl (G.2 0, 256, .inl (fun iX => iI ((va_up x.1 ((r * 16) + c) n) iX)))), (wi, .inl (G.2 0, 4 * 16, .inl (fun iX => iI ((E iX : Nat) : Int)))), (wo, .inl (G.2 0, 16 * 16, .inl (fun iX => iI ((x.2.2.1 iX : Nat) : Int)))), (wd, .inl (G.2 0, 1 * 16, .inl (fun iX => iI ((x.2.2.2 iX : Nat) : Int))))] H → va_D A [(sa, .inl (G.2 0, 256, .inl (fun iX => iI ((va_up x.1 ((r * 16) + c) n) iX)))), (wi, .inl (G.2 0, 4 * 16, .inl (fun iX => iI ((E iX : Nat) : Int)))), (wo, .inl (G.2 0, 16 * 16, .inl (fun iX => iI ((x.2.2.1 iX : Nat) : Int)))), (wd, .inl (G.2 0, 1 * 16, .inl (fun iX => iI ((x.2.2.2 iX : Nat) : Int))))] → va_S A sM.heap H locs → ∀ ls : Array Slot, lv_has ls 7 [(0, .ref p), (1, .int (iI (((r : Nat) : Int)))), (2, .int (iI (((c : Nat) : Int)))), (3, .int (iI (n))), (4, .ref y), (5, .int (iI (((1 <<< c : Nat) : Int)))), (6, .int (iI (((i : Nat) : Int))))] → W pM lM eM rmX1_mark sM mM ([.ref p, .int (iI (((r : Nat) : Int))), .int (iI (((c : Nat) : Int))), .int (iI (n)), .ref y] : List Value).toArray bM tM cM H locs 0 0 (MQ bM (rwA G A (det none [(sa, .inl (G.2 0, 256, .inl (fun iX => iI (((mkS n cl fn r c x).1) iX)))), (wi, .inl (G.2 0, 4 * 16, .inl (fun iX => iI ((((mkS n cl fn r c x).2.1) iX : Nat) : Int)))), (wo, .inl (G.2 0, 16 * 16, .inl (fun iX => iI ((((mkS n cl fn r c x).2.2.1) iX : Nat) : Int)))), (wd, .inl (G.2 0, 1 * 16, .inl (fun iX => iI ((((mkS n cl fn r c x).2.2.2) iX : Nat) : Int))))])) ([.ref p, .int (iI (((r : Nat) : Int))), .int (iI (((c : Nat) : Int))), .int (iI (n)), .ref y] : List Value).toArray sM 0 0 A) (F0 mM 29 ls []) := by
      intro n_29
      induction n_29 with
      | zero =>
        intro i E hi hEE hm_29 H locs hP hD hS ls hl
        exact absurd hm_29 (by omega)
      | succ n_29 ih_29 =>
        intro i E hi hEE hm_29 H locs hP hD hS ls hl
        refine lv_iload hx hb dX1_mark_29 (lv_at hl 6 rfl) ?_
        refine lv_iconst (v := iI (4)) hx hb dX1_mark_31 rfl ?_
        refine k_icmp_ge (a := ((i : Nat) : Int)) (b := 4) (tgt := 66) hx hb (by omega) (by omega) dX1_mark_32 (by decide) (fun c_32 => ?_) (fun c_32 => ?_)
        · refine lv_aload hx hb dX1_mark_66 (lv_at hl 4 rfl) ?_
          refine va_get (D := G.1) (ci := 2) (v := .int (iI (((cl : Nat) : Int)))) (C := RX2) (T := TX2) (N := 7) hx hb hts inX2_X1_mark hown hG.1 (rk hV0 hVA hS) 4 rfl rfl 5 (by decide) (hts (.fieldLink RX1 119 "InkOverInk$Shape" "colour" "I") (by decide +kernel)) (fun _ h9 => h9) rfl dX1_mark_68 ?_
          refine k_if_eq (a := ((cl : Nat) : Int)) (tgt := 108) hx hb (by omega) dX1_mark_71 (by decide) (fun c_71 => ?_) (fun c_71 => ?_)
          · exact rw_vret hx hb hr hlocks hP hD hS dX1_mark_108 (⟨rfl, by rw [mkS, if_neg (fun q => q.1 (by omega)), if_neg (fun q => q.1 (by omega)), ← show i = 4 by omega, ← hEE]⟩)
          · refine lv_aload hx hb dX1_mark_74 (lv_at hl 4 rfl) ?_
            refine va_get (D := G.1) (ci := 2) (v := .int (iI (b2i fn))) (C := RX2) (T := TX2) (N := 7) hx hb hts inX2_X1_mark hown hG.1 (rk hV0 hVA hS) 4 rfl rfl 6 (by decide) (hts (.fieldLink RX1 129 "InkOverInk$Shape" "fine" "Z") (by decide +kernel)) (fun _ h9 => h9) rfl dX1_mark_76 ?_
            refine k_ifnB (B := fn) (tgt := 108) hx hb dX1_mark_79 (by decide) (fun c_79 => ?_) (fun c_79 => ?_)
            · exact rw_vret hx hb hr hlocks hP hD hS dX1_mark_108 (⟨rfl, by rw [mkS, if_neg (fun q => by simp [c_79] at q), if_neg (fun q => by simp [c_79] at q), ← show i = 4 by omega, ← hEE]⟩)
            · refine lv_aload_n hx hb dX1_mark_82 rfl (lv_at hl 0 rfl) ?_
              refine va_get (D := G.1) (ci := 1) (v := .ref qo) (C := RX1) (T := TX1) (N := 7) hx hb hts inX1_X1_mark hown hG.1 (rk hV0 hVA hS) 0 rfl rfl 1 (by decide) (hts (.fieldLink RX1 20 "InkOverInk$Press" "open" "LInkOverInk$Layers;") (by decide +kernel)) (fun _ h9 => h9) rfl dX1_mark_83 ?_
              refine lv_aload hx hb dX1_mark_86 (lv_at hl 4 rfl) ?_
              refine va_get (D := G.1) (ci := 2) (v := .int (iI (((cl : Nat) : Int)))) (C := RX2) (T := TX2) (N := 7) hx hb hts inX2_X1_mark hown hG.1 (rk hV0 hVA hS) 4 rfl rfl 5 (by decide) (hts (.fieldLink RX1 119 "InkOverInk$Shape" "colour" "I") (by decide +kernel)) (fun _ h9 => h9) rfl dX1_mark_88 ?_
              refine lv_iload_n hx hb dX1_mark_91 rfl (lv_at hl 1 rfl) ?_
              refine lv_iload hx hb dX1_mark_92 (lv_at hl 5 rfl) ?_
              refine k_rwV (rest := []) (wr := [(sa, .inl (G.2 0, 256, .inl (fun iX => iI ((va_up x.1 ((r * 16) + c) n) iX)))), (wi, .inl (G.2 0, 4 * 16, .inl (fun iX => iI ((E iX : Nat) : Int)))), (wd, .inl (G.2 0, 1 * 16, .inl (fun iX => iI ((x.2.2.2 iX : Nat) : Int))))]) (w := [(wo, .inl (G.2 0, 16 * 16, .inl (fun iX => iI (((x.2.2.1) iX : Nat) : Int))))]) (v := [(qo, .inr (0, [.int (iI (16)), .ref wo]))]) [.int (iI (((cl : Nat) : Int))), .int (iI (((r : Nat) : Int))), .int (iI (((1 <<< c : Nat) : Int)))] ⟨hx, hb, hml, hown, hts⟩ (c_X0_join lM G H.size qo wo 16 cl r (1 <<< c) x.2.2.1 (by omega) (by omega) (by omega)) (cwV 3 hts gX1_mark_X0_join rfl rfl rfl (by decide +kernel) ⟨Nat.le_of_ble_eq_true rfl, Nat.le_of_ble_eq_true rfl⟩) hG (va_recv hG.1 (rk hV0 hVA hS) (ci := 0) (q0 := 1) rfl rfl) hP hD hS hA [2] [0, 1, 3] rfl rfl (by decide) ((rk hV0 hVA hS).sub (ws' := [(qo, .inr (0, [.int (iI (16)), .ref wo]))]) [1] rfl) (ap_ro (v := [(p, .inr (1, [.ref sa, .ref qo, .ref qi, .ref qs, .ref qp, .ref qh, .int (iI (((dn : Nat) : Int)))])), (qo, .inr (0, [.int (iI (16)), .ref wo])), (qi, .inr (0, [.int (iI (4)), .ref wi])), (qs, .inr (0, [.int (iI (1)), .ref wd])), (y, .inr (2, [.int (iI (((kd : Nat) : Int))), .int (iI (tp)), .int (iI (lf)), .int (iI (((ht : Nat) : Int))), .int (iI (((wt : Nat) : Int))), .int (iI (((cl : Nat) : Int))), .int (iI (b2i fn))]))]) (v' := [(qo, .inr (0, [.int (iI (16)), .ref wo]))]) hD hVA [2] [1] rfl rfl) rfl rfl hl.1 (Nat.le_of_ble_eq_true rfl) ⟨Nat.le_of_ble_eq_true rfl, Nat.le_of_ble_eq_true rfl⟩ dX1_mark_94 (fun o9 w9 H locs h9 hP hD hS => ?_)
              obtain ⟨rfl, rfl⟩ := h9
              have hP := hP.sub (ws' := [(sa, .inl (G.2 0, 256, .inl (fun iX => iI ((va_up x.1 ((r * 16) + c) n) iX)))), (wi, .inl (G.2 0, 4 * 16, .inl (fun iX => iI ((E iX : Nat) : Int)))), (wo, .inl (G.2 0, 16 * 16, .inl (fun iX => iI (((jn (x.2.2.1) cl r (1 <<< c)) iX : Nat) : Int)))), (wd, .inl (G.2 0, 1 * 16, .inl (fun iX => iI ((x.2.2.2 iX : Nat) : Int))))]) [0, 1, 3, 2] rfl
              have hD := hD.sub (ws' := [(sa, .inl (G.2 0, 256, .inl (fun iX => iI ((va_up x.1 ((r * 16) + c) n) iX)))), (wi, .inl (G.2 0, 4 * 16, .inl (fun iX => iI ((E iX : Nat) : Int)))), (wo, .inl (G.2 0, 16 * 16, .inl (fun iX => iI (((jn (x.2.2.1) cl r (1 <<< c)) iX : Nat) : Int)))), (wd, .inl (G.2 0, 1 * 16, .inl (fun iX => iI ((x.2.2.2 iX : Nat) : Int))))]) [0, 1, 3, 2] (by decide) rfl
              refine lv_aload_n hx hb dX1_mark_97 rfl (lv_at hl 0 rfl) ?_
              refine va_get (D := G.1) (ci := 1) (v := .ref qs) (C := RX1) (T := TX1) (N := 7) hx hb hts inX1_X1_mark hown hG.1 (rk hV0 hVA hS) 0 rfl rfl 3 (by decide) (hts (.fieldLink RX1 27 "InkOverInk$Press" "solid" "LInkOverInk$Layers;") (by decide +kernel)) (fun _ h9 => h9) rfl dX1_mark_98 ?_
              refine lv_iconst (v := iI (0)) hx hb dX1_mark_101 rfl ?_
              refine lv_iload_n hx hb dX1_mark_102 rfl (lv_at hl 1 rfl) ?_
              refine lv_iload hx hb dX1_mark_103 (lv_at hl 5 rfl) ?_
              refine k_rwV (rest := []) (wr := [(sa, .inl (G.2 0, 256, .inl (fun iX => iI ((va_up x.1 ((r * 16) + c) n) iX)))), (wi, .inl (G.2 0, 4 * 16, .inl (fun iX => iI ((E iX : Nat) : Int)))), (wo, .inl (G.2 0, 16 * 16, .inl (fun iX => iI (((jn (x.2.2.1) cl r (1 <<< c)) iX : Nat) : Int))))]) (w := [(wd, .inl (G.2 0, 1 * 16, .inl (fun iX => iI (((x.2.2.2) iX : Nat) : Int))))]) (v := [(qs, .inr (0, [.int (iI (1)), .ref wd]))]) [.int (iI (0)), .int (iI (((r : Nat) : Int))), .int (iI (((1 <<< c : Nat) : Int)))] ⟨hx, hb, hml, hown, hts⟩ (c_X0_join lM G H.size qs wd 1 0 r (1 <<< c) x.2.2.2 (by omega) (by omega) (by omega)) (cwV 3 hts gX1_mark_X0_join rfl rfl rfl (by decide +kernel) ⟨Nat.le_of_ble_eq_true rfl, Nat.le_of_ble_eq_true rfl⟩) hG (va_recv hG.1 (rk hV0 hVA hS) (ci := 0) (q0 := 3) rfl rfl) hP hD hS hA [3] [0, 1, 2] rfl rfl (by decide) ((rk hV0 hVA hS).sub (ws' := [(qs, .inr (0, [.int (iI (1)), .ref wd]))]) [3] rfl) (ap_ro (v := [(p, .inr (1, [.ref sa, .ref qo, .ref qi, .ref qs, .ref qp, .ref qh, .int (iI (((dn : Nat) : Int)))])), (qo, .inr (0, [.int (iI (16)), .ref wo])), (qi, .inr (0, [.int (iI (4)), .ref wi])), (qs, .inr (0, [.int (iI (1)), .ref wd])), (y, .inr (2, [.int (iI (((kd : Nat) : Int))), .int (iI (tp)), .int (iI (lf)), .int (iI (((ht : Nat) : Int))), .int (iI (((wt : Nat) : Int))), .int (iI (((cl : Nat) : Int))), .int (iI (b2i fn))]))]) (v' := [(qs, .inr (0, [.int (iI (1)), .ref wd]))]) hD hVA [3] [3] rfl rfl) rfl rfl hl.1 (Nat.le_of_ble_eq_true rfl) ⟨Nat.le_of_ble_eq_true rfl, Nat.le_of_ble_eq_true rfl⟩ dX1_mark_105 (fun o9 w9 H locs h9 hP hD hS => ?_)
              obtain ⟨rfl, rfl⟩ := h9
              have hP := hP.sub (ws' := [(sa, .inl (G.2 0, 256, .inl (fun iX => iI ((va_up x.1 ((r * 16) + c) n) iX)))), (wi, .inl (G.2 0, 4 * 16, .inl (fun iX => iI ((E iX : Nat) : Int)))), (wo, .inl (G.2 0, 16 * 16, .inl (fun iX => iI (((jn (x.2.2.1) cl r (1 <<< c)) iX : Nat) : Int)))), (wd, .inl (G.2 0, 1 * 16, .inl (fun iX => iI (((jn (x.2.2.2) 0 r (1 <<< c)) iX : Nat) : Int))))]) [0, 1, 2, 3] rfl
              have hD := hD.sub (ws' := [(sa, .inl (G.2 0, 256, .inl (fun iX => iI ((va_up x.1 ((r * 16) + c) n) iX)))), (wi, .inl (G.2 0, 4 * 16, .inl (fun iX => iI ((E iX : Nat) : Int)))), (wo, .inl (G.2 0, 16 * 16, .inl (fun iX => iI (((jn (x.2.2.1) cl r (1 <<< c)) iX : Nat) : Int)))), (wd, .inl (G.2 0, 1 * 16, .inl (fun iX => iI (((jn (x.2.2.2) 0 r (1 <<< c)) iX : Nat) : Int))))]) [0, 1, 2, 3] (by decide) rfl
              exact rw_vret hx hb hr hlocks hP hD hS dX1_mark_108 (⟨rfl, by rw [mkS, if_pos ⟨by omega, c_79⟩, if_pos ⟨by omega, c_79⟩, ← show i = 4 by omega, ← hEE]⟩)
        · refine lv_aload hx hb dX1_mark_35 (lv_at hl 4 rfl) ?_
          refine va_get (D := G.1) (ci := 2) (v := .int (iI (((cl : Nat) : Int)))) (C := RX2) (T := TX2) (N := 7) hx hb hts inX2_X1_mark hown hG.1 (rk hV0 hVA hS) 4 rfl rfl 5 (by decide) (hts (.fieldLink RX1 119 "InkOverInk$Shape" "colour" "I") (by decide +kernel)) (fun _ h9 => h9) rfl dX1_mark_37 ?_
          refine lv_iload hx hb dX1_mark_40 (lv_at hl 6 rfl) ?_
          refine k_roN (rest := []) [.int (iI (((cl : Nat) : Int))), .int (iI (((i : Nat) : Int)))] ⟨hx, hb, hml, hown, hts⟩ (c_X4_hasInk lM G cl i (by omega) (by omega)) ⟨va_cnB 2 hts gX1_mark_X4_hasInk_n122 rfl rfl rfl hG.2.1.2.2.2.1 (hts (.initialized RX4) (by decide +kernel)) (by decide +kernel) ⟨Nat.le_of_ble_eq_true rfl, Nat.le_of_ble_eq_true rfl⟩, hts (.static yX4_hasInk) (by decide +kernel), trivial⟩ hG (fun k q h => by simp at h) rfl rfl hl.1 (Nat.le_of_ble_eq_true rfl) ⟨Nat.zero_le _, Nat.zero_le _⟩ dX1_mark_42 ?_
          refine k_ifD (P := (cl >>> i) &&& 1 = 1) (tgt := 60) hx hb dX1_mark_45 (by decide) (fun c_45 => ?_) (fun c_45 => ?_)
          · refine k_iincN (n := 1) (lv' := [(6, .int (iI (((i + 1 : Nat) : Int)))), (0, .ref p), (1, .int (iI (((r : Nat) : Int)))), (2, .int (iI (((c : Nat) : Int)))), (3, .int (iI (n))), (4, .ref y), (5, .int (iI (((1 <<< c : Nat) : Int))))]) hx hb dX1_mark_60 hl (k := 6) rfl (by decide) rfl (fun ls hl => ?_)
            refine lv_goto (tgt := 29) hx hb dX1_mark_63 (by decide) ?_
            exact ih_29 (i + 1) E (by omega) (by first | (rw [inkJ, if_pos c_45, hEE]; done) | (rw [inkJ, if_neg c_45, hEE]; done)) (by omega) H locs hP hD hS ls (lv_sub hl [1, 2, 3, 4, 5, 6, 0] rfl)
          · refine lv_aload_n hx hb dX1_mark_48 rfl (lv_at hl 0 rfl) ?_
            refine va_get (D := G.1) (ci := 1) (v := .ref qi) (C := RX1) (T := TX1) (N := 7) hx hb hts inX1_X1_mark hown hG.1 (rk hV0 hVA hS) 0 rfl rfl 2 (by decide) (hts (.fieldLink RX1 24 "InkOverInk$Press" "inked" "LInkOverInk$Layers;") (by decide +kernel)) (fun _ h9 => h9) rfl dX1_mark_49 ?_
            refine lv_iload hx hb dX1_mark_52 (lv_at hl 6 rfl) ?_
            refine lv_iload_n hx hb dX1_mark_54 rfl (lv_at hl 1 rfl) ?_
            refine lv_iload hx hb dX1_mark_55 (lv_at hl 5 rfl) ?_
            refine k_rwV (rest := []) (wr := [(sa, .inl (G.2 0, 256, .inl (fun iX => iI ((va_up x.1 ((r * 16) + c) n) iX)))), (wo, .inl (G.2 0, 16 * 16, .inl (fun iX => iI ((x.2.2.1 iX : Nat) : Int)))), (wd, .inl (G.2 0, 1 * 16, .inl (fun iX => iI ((x.2.2.2 iX : Nat) : Int))))]) (w := [(wi, .inl (G.2 0, 4 * 16, .inl (fun iX => iI ((E iX : Nat) : Int))))]) (v := [(qi, .inr (0, [.int (iI (4)), .ref wi]))]) [.int (iI (((i : Nat) : Int))), .int (iI (((r : Nat) : Int))), .int (iI (((1 <<< c : Nat) : Int)))] ⟨hx, hb, hml, hown, hts⟩ (c_X0_join lM G H.size qi wi 4 i r (1 <<< c) E (by omega) (by omega) (by omega)) (cwV 3 hts gX1_mark_X0_join rfl rfl rfl (by decide +kernel) ⟨Nat.le_of_ble_eq_true rfl, Nat.le_of_ble_eq_true rfl⟩) hG (va_recv hG.1 (rk hV0 hVA hS) (ci := 0) (q0 := 2) rfl rfl) hP hD hS hA [1] [0, 2, 3] rfl rfl (by decide) ((rk hV0 hVA hS).sub (ws' := [(qi, .inr (0, [.int (iI (4)), .ref wi]))]) [2] rfl) (ap_ro (v := [(p, .inr (1, [.ref sa, .ref qo, .ref qi, .ref qs, .ref qp, .ref qh, .int (iI (((dn : Nat) : Int)))])), (qo, .inr (0, [.int (iI (16)), .ref wo])), (qi, .inr (0, [.int (iI (4)), .ref wi])), (qs, .inr (0, [.int (iI (1)), .ref wd])), (y, .inr (2, [.int (iI (((kd : Nat) : Int))), .int (iI (tp)), .int (iI (lf)), .int (iI (((ht : Nat) : Int))), .int (iI (((wt : Nat) : Int))), .int (iI (((cl : Nat) : Int))), .int (iI (b2i fn))]))]) (v' := [(qi, .inr (0, [.int (iI (4)), .ref wi]))]) hD hVA [1] [2] rfl rfl) rfl rfl hl.1 (Nat.le_of_ble_eq_true rfl) ⟨Nat.le_of_ble_eq_true rfl, Nat.le_of_ble_eq_true rfl⟩ dX1_mark_57 (fun o9 w9 H locs h9 hP hD hS => ?_)
            obtain ⟨rfl, rfl⟩ := h9
            have hP := hP.sub (ws' := [(sa, .inl (G.2 0, 256, .inl (fun iX => iI ((va_up x.1 ((r * 16) + c) n) iX)))), (wi, .inl (G.2 0, 4 * 16, .inl (fun iX => iI (((jn E i r (1 <<< c)) iX : Nat) : Int)))), (wo, .inl (G.2 0, 16 * 16, .inl (fun iX => iI ((x.2.2.1 iX : Nat) : Int)))), (wd, .inl (G.2 0, 1 * 16, .inl (fun iX => iI ((x.2.2.2 iX : Nat) : Int))))]) [0, 3, 1, 2] rfl
            have hD := hD.sub (ws' := [(sa, .inl (G.2 0, 256, .inl (fun iX => iI ((va_up x.1 ((r * 16) + c) n) iX)))), (wi, .inl (G.2 0, 4 * 16, .inl (fun iX => iI (((jn E i r (1 <<< c)) iX : Nat) : Int)))), (wo, .inl (G.2 0, 16 * 16, .inl (fun iX => iI ((x.2.2.1 iX : Nat) : Int)))), (wd, .inl (G.2 0, 1 * 16, .inl (fun iX => iI ((x.2.2.2 iX : Nat) : Int))))]) [0, 3, 1, 2] (by decide) rfl
            refine k_iincN (n := 1) (lv' := [(6, .int (iI (((i + 1 : Nat) : Int)))), (0, .ref p), (1, .int (iI (((r : Nat) : Int)))), (2, .int (iI (((c : Nat) : Int)))), (3, .int (iI (n))), (4, .ref y), (5, .int (iI (((1 <<< c : Nat) : Int))))]) hx hb dX1_mark_60 hl (k := 6) rfl (by decide) rfl (fun ls hl => ?_)
            refine lv_goto (tgt := 29) hx hb dX1_mark_63 (by decide) ?_
            exact ih_29 (i + 1) (jn E i r (1 <<< c)) (by omega) (by first | (rw [inkJ, if_pos c_45, hEE]; done) | (rw [inkJ, if_neg c_45, hEE]; done)) (by omega) H locs hP hD hS ls (lv_sub hl [1, 2, 3, 4, 5, 6, 0] rfl)
    exact loop_29 (5 - 0) 0 x.2.1 (by omega) rfl (Nat.le_refl _) H locs hP hD hS ls (lv_sub hl [2, 3, 4, 5, 6, 1, 0] rfl)
  · exact absurd (show (0 ≤ ((r : Nat) : Int) ∧ ((r : Nat) : Int) ≤ 15) ∧ (0 ≤ ((c : Nat) : Int) ∧ ((c : Nat) : Int) ≤ 15) by omega) c_5
