/-! what the press writes: fills, joins, pictures, plates, proofs -/
def jn (F : Nat → Nat) (a r b : Nat) : Nat → Nat := va_up F (a * 16 + r) (F (a * 16 + r) ||| b)
def inkJ (F : Nat → Nat) (cl r b : Nat) : Nat → Nat → Nat
  | 0 => F
  | i + 1 => if (cl >>> i) &&& 1 = 1 then jn (inkJ F cl r b i) i r b else inkJ F cl r b i
def foldN {σ : Type} (f : Nat → σ → σ) (a : Nat) (x : σ) : Nat → σ
  | 0 => x
  | k + 1 => f (a + k) (foldN f a x k)
abbrev PSt : Type := (Nat → Int) × (Nat → Nat) × (Nat → Nat) × (Nat → Nat)
def mkS (n : Int) (cl : Nat) (fn : Bool) (r c : Nat) (x : PSt) : PSt := (va_up x.1 (r * 16 + c) n, inkJ x.2.1 cl r (1 <<< c) 4, (if cl ≠ 0 ∧ fn = false then jn x.2.2.1 cl r (1 <<< c) else x.2.2.1), (if cl ≠ 0 ∧ fn = false then jn x.2.2.2 0 r (1 <<< c) else x.2.2.2))
def dCol (n : Int) (kd : Nat) (tp lf : Int) (ht wd cl : Nat) (fn : Bool) (r c : Nat) (x : PSt) : PSt := if x.1 (r * 16 + c) = -1 ∧ covP kd tp lf ht wd (r : Int) (c : Int) then mkS n cl fn r c x else x
def dRow (n : Int) (kd : Nat) (tp lf : Int) (ht wd cl : Nat) (fn : Bool) (c0 k : Nat) (r : Nat) (x : PSt) : PSt := foldN (dCol n kd tp lf ht wd cl fn r) c0 x k
def mx0 (z : Int) : Nat := (max 0 z).toNat
def spanN (z : Int) (len lim : Nat) : Nat := (min (lim : Int) (z + (len : Int))).toNat - mx0 z
def dShp (n : Int) (kd : Nat) (tp lf : Int) (ht wd cl : Nat) (fn : Bool) (rw cm : Nat) (x : PSt) : PSt := foldN (dRow n kd tp lf ht wd cl fn (mx0 lf) (spanN lf wd cm)) (mx0 tp) x (spanN tp ht rw)
def rmJ7_fill_53178 : Room := { frames := 0, cells := 0, slots := 0, locals := 0 }
set_option maxHeartbeats 4000000 in
set_option maxRecDepth 100000 in
theorem c_J7_fill_53178 (lM : Launch) (G : GG) (sz : Nat) (a n : Nat) (F : Nat → Int) (v : Int) (h1 : n < 65536) : Met lM yJ7_fill_53178 wsJ7_fill_53178 rmJ7_fill_53178 (rwP G [.ref a, .int (iI (v))] [(a, .inl (G.2 0, n, .inl (fun iX => iI (F iX))))] [] sz) (rwA G (va_A [(a, .inl (G.2 0, n, .inl (fun iX => iI (F iX))))] sz) (det none [(a, .inl (G.2 0, n, .inl (fun iX => iI ((fun _ => v) iX))))])) 0 0 (va_A [(a, .inl (G.2 0, n, .inl (fun iX => iI (F iX))))] sz) := by
  refine rw_of (cc := cJ7_fill_53178) (maxL := 4) (ret := none) (by decide) rfl (Nat.le_of_ble_eq_true rfl) ?_
  intro pM eM sM mM bM tM cM hx hb hr hts hown hlocks hml hin hG A hA hP hD hS hV0 hVA ls hl
  have hown : sM.vm.findClass RJ7 = some mM.cls := hown
  have hl : lv_has ls 4 [(0, .ref a), (1, .int (iI (v)))] := hl
  refine lv_iconst (v := iI (0)) hx hb dJ7_fill_53178_0 rfl ?_
  refine lv_istore_n (lv' := [(2, .int (iI (0))), (0, .ref a), (1, .int (iI (v)))]) hx hb dJ7_fill_53178_1 rfl hl (by decide) rfl (fun ls hl => ?_)
  refine lv_aload_n hx hb dJ7_fill_53178_2 rfl (lv_at hl 1 rfl) ?_
  refine k_alen hx hb hG hP 0 0 rfl rfl dJ7_fill_53178_3 ?_
  refine lv_istore_n (lv' := [(3, .int (iI (((n : Nat) : Int)))), (2, .int (iI (0))), (0, .ref a), (1, .int (iI (v)))]) hx hb dJ7_fill_53178_4 rfl hl (by decide) rfl (fun ls hl => ?_)
  have loop_5 : ∀ (n_5 : Nat) (i : Nat) (E : Nat → Int), (i ≤ n) → (∀ j, j < i → E j = v) → n + 1 - i ≤ n_5 → ∀ (H : Heap) (locs : List Loc), va_P G.1 vwCl [(a, .inl (G.2 0, n, .inl (fun iX => iI (E iX))))] H → va_D A [(a, .inl (G.2 0, n, .inl (fun iX => iI (E iX))))] → va_S A sM.heap H locs → ∀ ls : Array Slot, lv_has ls 4 [(0, .ref a), (1, .int (iI (v))), (2, .int (iI (((i : Nat) : Int)))), (3, .int (iI (((n : Nat) : Int))))] → W pM lM eM rmJ7_fill_53178 sM mM ([.ref a, .int (iI (v))] : List Value).toArray bM tM cM H locs 0 0 (MQ bM (rwA G A (det none [(a, .inl (G.2 0, n, .inl (fun iX => iI ((fun _ => v) iX))))])) ([.ref a, .int (iI (v))] : List Value).toArray sM 0 0 A) (F0 mM 5 ls []) := by
    intro n_5
    induction n_5 with
    | zero =>
      intro i E hi hE hm_5 H locs hP hD hS ls hl
      exact absurd hm_5 (by omega)
    | succ n_5 ih_5 =>
      intro i E hi hE hm_5 H locs hP hD hS ls hl
      refine lv_iload_n hx hb dJ7_fill_53178_5 rfl (lv_at hl 2 rfl) ?_
      refine lv_iload_n hx hb dJ7_fill_53178_6 rfl (lv_at hl 3 rfl) ?_
      refine k_icmp_ge (a := ((i : Nat) : Int)) (b := ((n : Nat) : Int)) (tgt := 20) hx hb (by omega) (by omega) dJ7_fill_53178_7 (by decide) (fun c_7 => ?_) (fun c_7 => ?_)
      · have hP : va_P G.1 vwCl [(a, .inl (G.2 0, n, .inl (fun iX => iI ((fun _ => v) iX))))] H := va_P.congA (q := 0) hP rfl (fun j hj => by rw [hE j (by omega)])
        have hD : va_D A [(a, .inl (G.2 0, n, .inl (fun iX => iI ((fun _ => v) iX))))] := va_D.set (p := 0) hD rfl
        exact rw_vret hx hb hr hlocks hP hD hS dJ7_fill_53178_20 (⟨rfl, rfl⟩)
      · refine lv_aload_n hx hb dJ7_fill_53178_10 rfl (lv_at hl 0 rfl) ?_
        refine lv_iload_n hx hb dJ7_fill_53178_11 rfl (lv_at hl 2 rfl) ?_
        refine lv_iload_n hx hb dJ7_fill_53178_12 rfl (lv_at hl 1 rfl) ?_
        refine k_iastN (F := E) (z := i) (v := v) hx hb hG hP hD hS 0 [(a, .inl (G.2 0, n, .inl (fun iX => iI ((va_up E i v) iX))))] rfl (by omega) (by omega) rfl dJ7_fill_53178_13 (fun H locs hP hD hS => ?_)
        refine k_iincN (n := 1) (lv' := [(2, .int (iI (((i + 1 : Nat) : Int)))), (0, .ref a), (1, .int (iI (v))), (3, .int (iI (((n : Nat) : Int))))]) hx hb dJ7_fill_53178_14 hl (k := 2) rfl (by decide) rfl (fun ls hl => ?_)
        refine lv_goto (tgt := 5) hx hb dJ7_fill_53178_17 (by decide) ?_
        exact ih_5 (i + 1) (va_up E i v) (by omega) (fun j hj => by rcases Nat.lt_or_ge j i with g1 | g1; exact (va_up_ne E v (by omega)).trans (hE j g1); obtain rfl : j = i := (by omega); exact va_up_self E j v) (by omega) H locs hP hD hS ls (lv_sub hl [1, 2, 0, 3] rfl)
  exact loop_5 (n + 1 - 0) 0 F (by omega) (fun j hj => absurd hj (Nat.not_lt_zero j)) (Nat.le_refl _) sM.heap [] hP hD hS ls (lv_sub hl [2, 3, 1, 0] rfl)

theorem c_J7_fill_N (lM : Launch) (G : GG) (sz : Nat) (a n : Nat) (F : Nat → Nat) (h1 : n < 65536) : Met lM yJ7_fill_53178 wsJ7_fill_53178 rmJ7_fill_53178 (rwP G [.ref a, .int (iI (0))] [(a, .inl (G.2 0, n, .inl (fun k => iI ((F k : Nat) : Int))))] [] sz) (rwA G (va_A [(a, .inl (G.2 0, n, .inl (fun k => iI ((F k : Nat) : Int))))] sz) (det none [(a, .inl (G.2 0, n, .inl (fun k => iI (((fun _ => 0) k : Nat) : Int))))])) 0 0 (va_A [(a, .inl (G.2 0, n, .inl (fun k => iI ((F k : Nat) : Int))))] sz) := c_J7_fill_53178 lM G sz a n (fun k => ((F k : Nat) : Int)) 0 h1

def rmX0_clear : Room := { frames := 1, cells := 0, slots := 0, locals := 23 }
set_option maxRecDepth 20000 in
theorem inX0_X0_clear : ∀ w ∈ wsX00, w ∈ wsX0_clear := by decide +kernel
set_option maxHeartbeats 4000000 in
set_option maxRecDepth 100000 in
theorem c_X0_clear (lM : Launch) (G : GG) (sz : Nat) (h w M : Nat) (F : Nat → Nat) (h1 : M ≤ 16) : Met lM yX0_clear wsX0_clear rmX0_clear (rwP G [.ref h] [(w, .inl (G.2 0, M * 16, .inl (fun iX => iI ((F iX : Nat) : Int))))] [(h, .inr (0, [.int (iI (((M : Nat) : Int))), .ref w]))] sz) (rwA G (va_A [(w, .inl (G.2 0, M * 16, .inl (fun iX => iI ((F iX : Nat) : Int))))] sz) (det none [(w, .inl (G.2 0, M * 16, .inl (fun iX => iI (((fun _ => 0) iX : Nat) : Int))))])) 0 0 (va_A [(w, .inl (G.2 0, M * 16, .inl (fun iX => iI ((F iX : Nat) : Int))))] sz) := by
  refine rw_of (cc := cX0_clear) (maxL := 1) (ret := none) (by decide) rfl (Nat.le_of_ble_eq_true rfl) ?_
  intro pM eM sM mM bM tM cM hx hb hr hts hown hlocks hml hin hG A hA hP hD hS hV0 hVA ls hl
  have hown : sM.vm.findClass RX0 = some mM.cls := hown
  have hl : lv_has ls 1 [(0, .ref h)] := hl
  refine lv_aload_n hx hb dX0_clear_0 rfl (lv_at hl 0 rfl) ?_
  refine va_get (D := G.1) (ci := 0) (v := .ref w) (C := RX0) (T := TX0) (N := 2) hx hb hts inX0_X0_clear hown hG.1 (rk hV0 hVA hS) 0 rfl rfl 1 (by decide) (hts (.fieldLink RX0 21 "InkOverInk$Layers" "words" "[I") (by decide +kernel)) (fun _ h9 => h9) rfl dX0_clear_1 ?_
  refine lv_iconst (v := iI (0)) hx hb dX0_clear_4 rfl ?_
  refine k_rwS (rest := []) (wr := []) (w := [(w, .inl (G.2 0, (M * 16), .inl (fun iX => iI ((F iX : Nat) : Int))))]) (v := []) [.ref w, .int (iI (0))] ⟨hx, hb, hml, hown, hts⟩ (c_J7_fill_N lM G sM.heap.size w (M * 16) F (by omega)) (va_cwS 2 hts gX0_clear_J7_fill_53178 rfl rfl rfl (by decide +kernel) ⟨Nat.le_of_ble_eq_true rfl, Nat.le_of_ble_eq_true rfl⟩) hG hP hD hS hA [0] [] rfl rfl (by decide) (fun k q h => by simp at h) ap_nil rfl rfl hl.1 (Nat.le_of_ble_eq_true rfl) ⟨Nat.le_of_ble_eq_true rfl, Nat.le_of_ble_eq_true rfl⟩ dX0_clear_5 (fun o9 w9 H locs h9 hP hD hS => ?_)
  obtain ⟨rfl, rfl⟩ := h9
  have hP := hP.sub (ws' := [(w, .inl (G.2 0, (M * 16), .inl (fun iX => iI (((fun _ => 0) iX : Nat) : Int))))]) [0] rfl
  have hD := hD.sub (ws' := [(w, .inl (G.2 0, (M * 16), .inl (fun iX => iI (((fun _ => 0) iX : Nat) : Int))))]) [0] (by decide) rfl
  exact rw_vret hx hb hr hlocks hP hD hS dX0_clear_8 (⟨rfl, rfl⟩)

def rmX0_join : Room := { frames := 1, cells := 0, slots := 0, locals := 22 }
set_option maxRecDepth 20000 in
theorem inX0_X0_join : ∀ w ∈ wsX00, w ∈ wsX0_join := by decide +kernel
set_option maxHeartbeats 4000000 in
set_option maxRecDepth 100000 in
theorem c_X0_join (lM : Launch) (G : GG) (sz : Nat) (h w M a r b : Nat) (F : Nat → Nat) (h1 : a < M) (h2 : M ≤ 16) (h3 : r < 16) : Met lM yX0_join wsX0_join rmX0_join (rwP G [.ref h, .int (iI (((a : Nat) : Int))), .int (iI (((r : Nat) : Int))), .int (iI (((b : Nat) : Int)))] [(w, .inl (G.2 0, M * 16, .inl (fun iX => iI ((F iX : Nat) : Int))))] [(h, .inr (0, [.int (iI (((M : Nat) : Int))), .ref w]))] sz) (rwA G (va_A [(w, .inl (G.2 0, M * 16, .inl (fun iX => iI ((F iX : Nat) : Int))))] sz) (det none [(w, .inl (G.2 0, M * 16, .inl (fun iX => iI (((jn F a r b) iX : Nat) : Int))))])) 0 0 (va_A [(w, .inl (G.2 0, M * 16, .inl (fun iX => iI ((F iX : Nat) : Int))))] sz) := by
  refine rw_of (cc := cX0_join) (maxL := 4) (ret := none) (by decide) rfl (Nat.le_of_ble_eq_true rfl) ?_
  intro pM eM sM mM bM tM cM hx hb hr hts hown hlocks hml hin hG A hA hP hD hS hV0 hVA ls hl
  have hown : sM.vm.findClass RX0 = some mM.cls := hown
  have hl : lv_has ls 4 [(0, .ref h), (1, .int (iI (((a : Nat) : Int)))), (2, .int (iI (((r : Nat) : Int)))), (3, .int (iI (((b : Nat) : Int))))] := hl
  refine lv_aload_n hx hb dX0_join_0 rfl (lv_at hl 0 rfl) ?_
  refine lv_iload_n hx hb dX0_join_1 rfl (lv_at hl 1 rfl) ?_
  refine lv_iload_n hx hb dX0_join_2 rfl (lv_at hl 2 rfl) ?_
  refine k_roV (rest := []) [.int (iI (((a : Nat) : Int))), .int (iI (((r : Nat) : Int)))] ⟨hx, hb, hml, hown, hts⟩ (c_X0_isRow lM G h w M a ((r : Nat) : Int) (by omega) (by omega) (by omega)) (cwV 2 hts gX0_join_X0_isRow rfl rfl rfl (by decide +kernel) ⟨Nat.le_of_ble_eq_true rfl, Nat.le_of_ble_eq_true rfl⟩) hG (va_recv hG.1 (rk hV0 hVA hS) (ci := 0) (q0 := 0) rfl rfl) ((rk hV0 hVA hS).sub (ws' := [(h, .inr (0, [.int (iI (((M : Nat) : Int))), .ref w]))]) [0] rfl) rfl rfl hl.1 (Nat.le_of_ble_eq_true rfl) ⟨Nat.zero_le _, Nat.zero_le _⟩ dX0_join_3 ?_
  refine k_ifD (P := a < M ∧ 0 ≤ ((r : Nat) : Int) ∧ ((r : Nat) : Int) < 16) (tgt := 24) hx hb dX0_join_6 (by decide) (fun c_6 => ?_) (fun c_6 => ?_)
  · exact absurd (show a < M ∧ 0 ≤ ((r : Nat) : Int) ∧ ((r : Nat) : Int) < 16 by omega) c_6
  · refine lv_aload_n hx hb dX0_join_9 rfl (lv_at hl 0 rfl) ?_
    refine va_get (D := G.1) (ci := 0) (v := .ref w) (C := RX0) (T := TX0) (N := 2) hx hb hts inX0_X0_join hown hG.1 (rk hV0 hVA hS) 0 rfl rfl 1 (by decide) (hts (.fieldLink RX0 21 "InkOverInk$Layers" "words" "[I") (by decide +kernel)) (fun _ h9 => h9) rfl dX0_join_10 ?_
    refine lv_iload_n hx hb dX0_join_13 rfl (lv_at hl 1 rfl) ?_
    refine lv_bipush (v := iI (16)) hx hb dX0_join_14 (by decide) ?_
    refine k_imulN (a := a) (b := 16) hx hb dX0_join_16 ?_
    refine lv_iload_n hx hb dX0_join_17 rfl (lv_at hl 2 rfl) ?_
    refine k_iaddN (a := (a * 16)) (b := r) hx hb dX0_join_18 ?_
    refine lv_dup2_11 hx hb dX0_join_19 rfl rfl ?_
    refine k_ialdN (F := (fun iX => ((F iX : Nat) : Int))) (z := (a * 16) + r) hx hb hG hP 0 rfl (by omega) (by omega) dX0_join_20 ?_
    refine lv_iload_n hx hb dX0_join_21 rfl (lv_at hl 3 rfl) ?_
    refine k_ior (a := F ((a * 16) + r)) (b := b) hx hb dX0_join_22 ?_
    refine k_iastNN (F := F) (z := (a * 16) + r) (v := (F ((a * 16) + r)) ||| b) hx hb hG hP hD hS 0 [(w, .inl (G.2 0, M * 16, .inl (fun iX => iI (((va_up F ((a * 16) + r) ((F ((a * 16) + r)) ||| b)) iX : Nat) : Int))))] rfl (by omega) (by omega) rfl dX0_join_23 (fun H locs hP hD hS => ?_)
    exact rw_vret hx hb hr hlocks hP hD hS dX0_join_24 (⟨rfl, rfl⟩)

def rmX0_become : Room := { frames := 1, cells := 0, slots := 0, locals := 28 }
set_option maxRecDepth 20000 in
theorem inX0_X0_become : ∀ w ∈ wsX00, w ∈ wsX0_become := by decide +kernel
set_option maxHeartbeats 4000000 in
set_option maxRecDepth 100000 in
theorem c_X0_become (lM : Launch) (G : GG) (sz : Nat) (h w h2 w2 M : Nat) (F F2 : Nat → Nat) (h1 : M ≤ 16) : Met lM yX0_become wsX0_become rmX0_become (rwP G [.ref h, .ref h2] [(w, .inl (G.2 0, M * 16, .inl (fun iX => iI ((F iX : Nat) : Int)))), (w2, .inl (G.2 0, M * 16, .inl (fun iX => iI ((F2 iX : Nat) : Int))))] [(h, .inr (0, [.int (iI (((M : Nat) : Int))), .ref w])), (h2, .inr (0, [.int (iI (((M : Nat) : Int))), .ref w2]))] sz) (rwA G (va_A [(w, .inl (G.2 0, M * 16, .inl (fun iX => iI ((F iX : Nat) : Int)))), (w2, .inl (G.2 0, M * 16, .inl (fun iX => iI ((F2 iX : Nat) : Int))))] sz) (det none [(w, .inl (G.2 0, M * 16, .inl (fun iX => iI ((F2 iX : Nat) : Int)))), (w2, .inl (G.2 0, M * 16, .inl (fun iX => iI ((F2 iX : Nat) : Int))))])) 0 0 (va_A [(w, .inl (G.2 0, M * 16, .inl (fun iX => iI ((F iX : Nat) : Int)))), (w2, .inl (G.2 0, M * 16, .inl (fun iX => iI ((F2 iX : Nat) : Int))))] sz) := by
  refine rw_of (cc := cX0_become) (maxL := 2) (ret := none) (by decide) rfl (Nat.le_of_ble_eq_true rfl) ?_
  intro pM eM sM mM bM tM cM hx hb hr hts hown hlocks hml hin hG A hA hP hD hS hV0 hVA ls hl
  have hown : sM.vm.findClass RX0 = some mM.cls := hown
  have hl : lv_has ls 2 [(0, .ref h), (1, .ref h2)] := hl
  refine lv_aload_n hx hb dX0_become_0 rfl (lv_at hl 1 rfl) ?_
  refine va_get (D := G.1) (ci := 0) (v := .ref w2) (C := RX0) (T := TX0) (N := 2) hx hb hts inX0_X0_become hown hG.1 (rk hV0 hVA hS) 1 rfl rfl 1 (by decide) (hts (.fieldLink RX0 21 "InkOverInk$Layers" "words" "[I") (by decide +kernel)) (fun _ h9 => h9) rfl dX0_become_1 ?_
  refine lv_iconst (v := iI (0)) hx hb dX0_become_4 rfl ?_
  refine lv_aload_n hx hb dX0_become_5 rfl (lv_at hl 0 rfl) ?_
  refine va_get (D := G.1) (ci := 0) (v := .ref w) (C := RX0) (T := TX0) (N := 2) hx hb hts inX0_X0_become hown hG.1 (rk hV0 hVA hS) 0 rfl rfl 1 (by decide) (hts (.fieldLink RX0 21 "InkOverInk$Layers" "words" "[I") (by decide +kernel)) (fun _ h9 => h9) rfl dX0_become_6 ?_
  refine lv_iconst (v := iI (0)) hx hb dX0_become_9 rfl ?_
  refine lv_aload_n hx hb dX0_become_10 rfl (lv_at hl 0 rfl) ?_
  refine va_get (D := G.1) (ci := 0) (v := .ref w) (C := RX0) (T := TX0) (N := 2) hx hb hts inX0_X0_become hown hG.1 (rk hV0 hVA hS) 0 rfl rfl 1 (by decide) (hts (.fieldLink RX0 21 "InkOverInk$Layers" "words" "[I") (by decide +kernel)) (fun _ h9 => h9) rfl dX0_become_11 ?_
  refine k_alen hx hb hG hP 0 0 rfl rfl dX0_become_14 ?_
  refine lv_aload_n hx hb dX0_become_15 rfl (lv_at hl 1 rfl) ?_
  refine va_get (D := G.1) (ci := 0) (v := .ref w2) (C := RX0) (T := TX0) (N := 2) hx hb hts inX0_X0_become hown hG.1 (rk hV0 hVA hS) 1 rfl rfl 1 (by decide) (hts (.fieldLink RX0 21 "InkOverInk$Layers" "words" "[I") (by decide +kernel)) (fun _ h9 => h9) rfl dX0_become_16 ?_
  refine k_alen hx hb hG hP 1 0 rfl rfl dX0_become_19 ?_
  refine k_mminN (a := M * 16) (b := M * 16) hx hb (by rw [hml]; exact hl.1.symm) hown (hts (.methodLink RX0 31 Lib.Math.min.name) (by decide +kernel)) (hts (.static Lib.Math.min.name) (by decide +kernel)) (hts (.initialized "java/lang/Math") (by decide +kernel)) (hts (.code Lib.Math.min.name Lib.Math.min.code 2 (some .int)) (by decide +kernel)) (by omega) (by omega) (Nat.le_of_ble_eq_true rfl) (Nat.le_of_ble_eq_true rfl) (Nat.zero_le _) (Nat.zero_le _) dX0_become_20 ?_
  rw [Nat.min_self]
  refine k_copyAll (n := M * 16) (F := (fun iX => ((F2 iX : Nat) : Int))) (F1 := (fun iX => ((F iX : Nat) : Int))) hx hb (by rw [hml]; exact hl.1.symm) hown (hts (.methodLink RX0 34 arraycopyName) (by decide +kernel)) (hts (.native arraycopyName) (by decide +kernel)) (hts (.static arraycopyName) (by decide +kernel)) (hts (.initialized "java/lang/System") (by decide +kernel)) hG hP hD hS 1 0 [(w, .inl (G.2 0, M * 16, .inl (fun iX => iI ((F2 iX : Nat) : Int)))), (w2, .inl (G.2 0, M * 16, .inl (fun iX => iI ((F2 iX : Nat) : Int))))] rfl rfl (by omega) rfl (Nat.le_of_ble_eq_true rfl) (Nat.le_of_ble_eq_true rfl) dX0_become_23 (fun H locs hP hD hS => ?_)
  exact rw_vret hx hb hr hlocks hP hD hS dX0_become_26 (⟨rfl, rfl⟩)
