/-! bits -/
theorem bit_tb (x i : Nat) : (x >>> i) &&& 1 = 1 ↔ x.testBit i = true := by
  rw [Nat.and_one_is_mod, Nat.shiftRight_eq_div_pow, Nat.testBit_eq_decide_div_mod_eq, decide_eq_true_eq]
theorem bit_tb0 (x i : Nat) : (x >>> i) &&& 1 = if x.testBit i = true then 1 else 0 := by
  by_cases h : x.testBit i = true
  · rw [if_pos h]
    exact (bit_tb x i).mpr h
  · rw [if_neg h]
    have h1 : ¬ (x >>> i) &&& 1 = 1 := fun q => h ((bit_tb x i).mp q)
    have h2 : (x >>> i) &&& 1 ≤ 1 := Nat.and_le_right
    omega
theorem one_tb (c d : Nat) : (1 <<< c).testBit d = true ↔ d = c := by
  rw [Nat.one_shiftLeft, Nat.testBit_two_pow, decide_eq_true_eq]
  exact ⟨fun h => h.symm, fun h => h.symm⟩
theorem or_tb (x y c : Nat) : (x ||| y).testBit c = true ↔ x.testBit c = true ∨ y.testBit c = true := by
  rw [Nat.testBit_or, Bool.or_eq_true]
theorem and_tb (x y c : Nat) : (x &&& y).testBit c = true ↔ x.testBit c = true ∧ y.testBit c = true := by
  rw [Nat.testBit_and, Bool.and_eq_true]
theorem shl_tb (x k c : Nat) : (x <<< k).testBit c = true ↔ k ≤ c ∧ x.testBit (c - k) = true := by
  rw [Nat.testBit_shiftLeft, Bool.and_eq_true, decide_eq_true_eq]
theorem shr_tb (x k c : Nat) : (x >>> k).testBit c = true ↔ x.testBit (k + c) = true := by
  rw [Nat.testBit_shiftRight]
theorem zero_tb (c : Nat) : ¬ (0 : Nat).testBit c = true := by
  rw [Nat.zero_testBit]
  decide
theorem big_tb {x n c : Nat} (h : x < 2 ^ n) (hc : n ≤ c) : ¬ x.testBit c = true := by
  have : x < 2 ^ c := Nat.lt_of_lt_of_le h (Nat.pow_le_pow_right (by decide) hc)
  rw [Nat.testBit_lt_two_pow this]
  decide
theorem ext_tb {x y : Nat} (h : ∀ c, x.testBit c = true ↔ y.testBit c = true) : x = y := by
  apply Nat.eq_of_testBit_eq
  intro i
  have := h i
  cases hx : x.testBit i <;> cases hy : y.testBit i <;> simp_all
theorem ne0_tb {x : Nat} : x ≠ 0 ↔ ∃ c, x.testBit c = true := by
  constructor
  · intro h
    apply Classical.byContradiction
    intro q
    exact h (ext_tb (fun c => ⟨fun q2 => absurd ⟨c, q2⟩ q, fun q2 => absurd q2 (zero_tb c)⟩))
  · rintro ⟨c, hc⟩ rfl
    exact zero_tb c hc
theorem not_tb {y c : Nat} (hc : c < 32) : (y ^^^ 4294967295).testBit c = true ↔ ¬ y.testBit c = true := by
  have e : (4294967295 : Nat).testBit c = true := by
    rw [show (4294967295 : Nat) = 2 ^ 32 - 1 by decide, Nat.testBit_two_pow_sub_one]
    exact decide_eq_true hc
  rw [Nat.testBit_xor, e]
  cases y.testBit c <;> decide
theorem xor_tb {x y c : Nat} : (x ^^^ y).testBit c = true ↔ ¬ (x.testBit c = true ↔ y.testBit c = true) := by
  rw [Nat.testBit_xor]
  cases x.testBit c <;> cases y.testBit c <;> decide
theorem jn_tb (F : Nat → Nat) (a r b a' r' c : Nat) (hr : r < 16) (hr' : r' < 16) : (jn F a r b (a' * 16 + r')).testBit c = true ↔ (F (a' * 16 + r')).testBit c = true ∨ (a' = a ∧ r' = r ∧ b.testBit c = true) := by
  unfold jn va_up
  by_cases e : a' * 16 + r' = a * 16 + r
  · obtain rfl : a' = a := by omega
    obtain rfl : r' = r := by omega
    rw [if_pos rfl, or_tb]
    exact ⟨fun h => h.elim Or.inl (fun q => Or.inr ⟨rfl, rfl, q⟩), fun h => h.elim Or.inl (fun q => Or.inr q.2.2)⟩
  · rw [if_neg e]
    refine ⟨Or.inl, fun h => h.elim id (fun q => absurd (by rw [q.1, q.2.1]) e)⟩
theorem inkJ_tb (F : Nat → Nat) (cl r b a r' c : Nat) (hr : r < 16) (hr' : r' < 16) : ∀ i, (inkJ F cl r b i (a * 16 + r')).testBit c = true ↔ (F (a * 16 + r')).testBit c = true ∨ (a < i ∧ cl.testBit a = true ∧ r' = r ∧ b.testBit c = true)
  | 0 => ⟨Or.inl, fun h => h.elim id (fun q => absurd q.1 (by omega))⟩
  | i + 1 => by
    have ih := inkJ_tb F cl r b a r' c hr hr' i
    unfold inkJ
    by_cases hb : (cl >>> i) &&& 1 = 1
    · rw [if_pos hb, jn_tb _ _ _ _ _ _ _ hr hr', ih]
      rw [bit_tb] at hb
      constructor
      · rintro ((h | h) | h)
        · exact Or.inl h
        · exact Or.inr ⟨by omega, h.2⟩
        · exact Or.inr ⟨by omega, by rw [h.1]; exact hb, h.2⟩
      · rintro (h | h)
        · exact Or.inl (Or.inl h)
        · rcases Nat.lt_or_ge a i with g | g
          · exact Or.inl (Or.inr ⟨g, h.2⟩)
          · exact Or.inr ⟨by omega, h.2.2⟩
    · rw [if_neg hb, ih]
      rw [bit_tb] at hb
      constructor
      · rintro (h | h)
        · exact Or.inl h
        · exact Or.inr ⟨by omega, h.2⟩
      · rintro (h | h)
        · exact Or.inl h
        · rcases Nat.lt_or_ge a i with g | g
          · exact Or.inr ⟨g, h.2⟩
          · obtain rfl : a = i := by omega
            exact absurd h.2.1 hb
/-! the picture, cell by cell -/
def Rep (CL FN : Nat → Nat) (X : PSt) (t : Nat → Nat → Int) : Prop := (∀ r c, r < 16 → c < 16 → X.1 (r * 16 + c) = t r c) ∧ (∀ i r c, i < 4 → r < 16 → ((X.2.1 (i * 16 + r)).testBit c = true ↔ c < 16 ∧ (colS CL (t r c)).testBit i = true)) ∧ (∀ k r c, k < 16 → r < 16 → ((X.2.2.1 (k * 16 + r)).testBit c = true ↔ c < 16 ∧ k ≠ 0 ∧ colS CL (t r c) = k ∧ finS FN (t r c) = false)) ∧ (∀ r c, r < 16 → ((X.2.2.2 (0 * 16 + r)).testBit c = true ↔ c < 16 ∧ colS CL (t r c) ≠ 0 ∧ finS FN (t r c) = false))
def up2 (t : Nat → Nat → Int) (r c : Nat) (n : Int) : Nat → Nat → Int := fun r' c' => if r' = r ∧ c' = c then n else t r' c'
theorem colS_m1 (CL : Nat → Nat) : colS CL (-1) = 0 := by
  unfold colS
  rw [if_pos rfl]
theorem colS_n (CL : Nat → Nat) (n : Nat) : colS CL (n : Int) = CL n := by
  unfold colS
  rw [if_neg (by omega)]
  rfl
theorem finS_n (FN : Nat → Nat) (n : Nat) : finS FN (n : Int) = decide (FN n = 1) := by
  unfold finS
  by_cases h : FN n = 1
  · rw [decide_eq_true h]
    exact decide_eq_true ⟨by omega, h⟩
  · rw [decide_eq_false h]
    exact decide_eq_false (fun q => h q.2)
theorem finS_m1 (FN : Nat → Nat) : finS FN (-1) = false := decide_eq_false (fun q => q.1 rfl)
theorem Rep_mk {CL FN : Nat → Nat} {X : PSt} {t : Nat → Nat → Int} {r c n : Nat} (hC : ∀ k, CL k < 16) (hr : r < 16) (hc : c < 16) (h : Rep CL FN X t) (ht : t r c = -1) : Rep CL FN (mkS (n : Int) (CL n) (decide (FN n = 1)) r c X) (up2 t r c (n : Int)) := by
  obtain ⟨h1, h2, h3, h4⟩ := h
  refine ⟨?_, ?_, ?_, ?_⟩
  · intro r' c' hr' hc'
    show va_up X.1 (r * 16 + c) (n : Int) (r' * 16 + c') = up2 t r c (n : Int) r' c'
    unfold va_up up2
    by_cases e : r' = r ∧ c' = c
    · rw [if_pos (by omega), if_pos e]
    · rw [if_neg (by omega), if_neg e]
      exact h1 r' c' hr' hc'
  · intro i r' c' hi hr'
    show (inkJ X.2.1 (CL n) r (1 <<< c) 4 (i * 16 + r')).testBit c' = true ↔ _
    rw [inkJ_tb _ _ _ _ _ _ _ hr hr', h2 i r' c' hi hr', one_tb]
    unfold up2
    by_cases e : r' = r ∧ c' = c
    · rw [if_pos e, colS_n]
      obtain ⟨rfl, rfl⟩ := e
      rw [ht, colS_m1]
      exact ⟨fun q => q.elim (fun q => absurd q.2 (zero_tb i)) (fun q => ⟨hc, q.2.1⟩), fun q => Or.inr ⟨hi, q.2, rfl, rfl⟩⟩
    · rw [if_neg e]
      exact ⟨fun q => q.elim id (fun q => absurd ⟨q.2.2.1, q.2.2.2⟩ e), Or.inl⟩
  · intro k r' c' hk hr'
    show ((if CL n ≠ 0 ∧ decide (FN n = 1) = false then jn X.2.2.1 (CL n) r (1 <<< c) else X.2.2.1) (k * 16 + r')).testBit c' = true ↔ _
    unfold up2
    by_cases e : r' = r ∧ c' = c
    · rw [if_pos e, colS_n, finS_n]
      obtain ⟨rfl, rfl⟩ := e
      have q0 := h3 k r' c' hk hr'
      rw [ht, colS_m1] at q0
      by_cases e2 : CL n ≠ 0 ∧ decide (FN n = 1) = false
      · rw [if_pos e2, jn_tb _ _ _ _ _ _ _ hr' hr', q0, one_tb]
        exact ⟨fun q => q.elim (fun q => absurd q.2.2.1.symm q.2.1) (fun q => ⟨hc, by rw [q.1]; exact e2.1, q.1.symm, e2.2⟩), fun q => Or.inr ⟨q.2.2.1.symm, rfl, rfl⟩⟩
      · rw [if_neg e2, q0]
        exact ⟨fun q => absurd q.2.2.1.symm q.2.1, fun q => absurd ⟨by rw [q.2.2.1]; exact q.2.1, q.2.2.2⟩ e2⟩
    · rw [if_neg e, ← h3 k r' c' hk hr']
      split
      · rw [jn_tb _ _ _ _ _ _ _ hr hr', one_tb]
        exact ⟨fun q => q.elim id (fun q => absurd ⟨q.2.1, q.2.2⟩ e), Or.inl⟩
      · exact Iff.rfl
  · intro r' c' hr'
    show ((if CL n ≠ 0 ∧ decide (FN n = 1) = false then jn X.2.2.2 0 r (1 <<< c) else X.2.2.2) (0 * 16 + r')).testBit c' = true ↔ _
    unfold up2
    by_cases e : r' = r ∧ c' = c
    · rw [if_pos e, colS_n, finS_n]
      obtain ⟨rfl, rfl⟩ := e
      have q0 := h4 r' c' hr'
      rw [ht, colS_m1] at q0
      by_cases e2 : CL n ≠ 0 ∧ decide (FN n = 1) = false
      · rw [if_pos e2, jn_tb _ _ _ _ _ _ _ hr' hr', q0, one_tb]
        exact ⟨fun q => ⟨hc, e2⟩, fun q => Or.inr ⟨rfl, rfl, rfl⟩⟩
      · rw [if_neg e2, q0]
        exact ⟨fun q => absurd rfl q.2.1, fun q => absurd q.2 e2⟩
    · rw [if_neg e, ← h4 r' c' hr']
      split
      · rw [jn_tb _ _ _ _ _ _ _ hr hr', one_tb]
        exact ⟨fun q => q.elim id (fun q => absurd ⟨q.2.1, q.2.2⟩ e), Or.inl⟩
      · exact Iff.rfl
def tReg (P : Nat → Nat → Prop) (n : Int) (t : Nat → Nat → Int) (t' : Nat → Nat → Int) (Rg : Nat → Nat → Prop) : Prop := ∀ r c, ((Rg r c ∧ t r c = -1 ∧ P r c) → t' r c = n) ∧ (¬ (Rg r c ∧ t r c = -1 ∧ P r c) → t' r c = t r c)
theorem Rep_row {CL FN : Nat → Nat} {X : PSt} {t : Nat → Nat → Int} {n r c0 : Nat} {kd : Nat} {tp lf : Int} {ht wd : Nat} (hC : ∀ k, CL k < 16) (hr : r < 16) (h : Rep CL FN X t) : ∀ k, (k = 0 ∨ c0 + k ≤ 16) → ∃ t', Rep CL FN (foldN (dCol (n : Int) kd tp lf ht wd (CL n) (decide (FN n = 1)) r) c0 X k) t' ∧ tReg (fun r c => covP kd tp lf ht wd (r : Int) (c : Int)) (n : Int) t t' (fun r' c' => r' = r ∧ c0 ≤ c' ∧ c' < c0 + k)
  | 0, _ => ⟨t, h, fun r c => ⟨fun q => absurd q.1.2 (by omega), fun _ => rfl⟩⟩
  | k + 1, hk => by
    obtain ⟨t', h1, h2⟩ := Rep_row (n := n) (c0 := c0) (kd := kd) (tp := tp) (lf := lf) (ht := ht) (wd := wd) hC hr h k (by omega)
    have e1 : t' r (c0 + k) = t r (c0 + k) := (h2 r (c0 + k)).2 (fun q => absurd q.1.2 (by omega))
    show ∃ t'', Rep CL FN (dCol (n : Int) kd tp lf ht wd (CL n) (decide (FN n = 1)) r (c0 + k) (foldN (dCol (n : Int) kd tp lf ht wd (CL n) (decide (FN n = 1)) r) c0 X k)) t'' ∧ _
    generalize foldN (dCol (n : Int) kd tp lf ht wd (CL n) (decide (FN n = 1)) r) c0 X k = Y at h1 ⊢
    unfold dCol
    rw [h1.1 r (c0 + k) hr (by omega), e1]
    by_cases hq : t r (c0 + k) = -1 ∧ covP kd tp lf ht wd (r : Int) ((c0 + k : Nat) : Int)
    · rw [if_pos hq]
      refine ⟨_, Rep_mk hC hr (by omega) h1 (e1.trans hq.1), fun r' c' => ?_⟩
      unfold up2
      by_cases e : r' = r ∧ c' = c0 + k
      · rw [if_pos e]
        refine ⟨fun _ => rfl, fun q => absurd ⟨⟨e.1, by omega, by omega⟩, ?_, ?_⟩ q⟩
        · rw [e.1, e.2]; exact hq.1
        · rw [e.1, e.2]; exact hq.2
      · rw [if_neg e]
        refine ⟨fun q => (h2 r' c').1 ⟨⟨q.1.1, q.1.2.1, by have := q.1.2.2; have := q.1.1; omega⟩, q.2⟩, fun q => (h2 r' c').2 (fun q2 => q ⟨⟨q2.1.1, q2.1.2.1, by have := q2.1.2.2; omega⟩, q2.2⟩)⟩
    · rw [if_neg hq]
      refine ⟨t', h1, fun r' c' => ?_⟩
      by_cases e : r' = r ∧ c' = c0 + k
      · obtain ⟨rfl, rfl⟩ := e
        exact ⟨fun q => absurd q.2 hq, fun _ => e1⟩
      · refine ⟨fun q => (h2 r' c').1 ⟨⟨q.1.1, q.1.2.1, by have := q.1.2.2; have := q.1.1; omega⟩, q.2⟩, fun q => (h2 r' c').2 (fun q2 => q ⟨⟨q2.1.1, q2.1.2.1, by have := q2.1.2.2; omega⟩, q2.2⟩)⟩
theorem Rep_shp {CL FN : Nat → Nat} {X : PSt} {t : Nat → Nat → Int} {n r0 c0 kc : Nat} {kd : Nat} {tp lf : Int} {ht wd : Nat} (hC : ∀ k, CL k < 16) (hc : kc = 0 ∨ c0 + kc ≤ 16) (h : Rep CL FN X t) : ∀ k, (k = 0 ∨ r0 + k ≤ 16) → ∃ t', Rep CL FN (foldN (dRow (n : Int) kd tp lf ht wd (CL n) (decide (FN n = 1)) c0 kc) r0 X k) t' ∧ tReg (fun r c => covP kd tp lf ht wd (r : Int) (c : Int)) (n : Int) t t' (fun r' c' => (r0 ≤ r' ∧ r' < r0 + k) ∧ (c0 ≤ c' ∧ c' < c0 + kc))
  | 0, _ => ⟨t, h, fun r c => ⟨fun q => absurd q.1.1 (by omega), fun _ => rfl⟩⟩
  | k + 1, hk => by
    obtain ⟨t', h1, h2⟩ := Rep_shp (n := n) (r0 := r0) (kd := kd) (tp := tp) (lf := lf) (ht := ht) (wd := wd) hC hc h k (by omega)
    obtain ⟨t'', h3, h4⟩ := Rep_row (n := n) (kd := kd) (tp := tp) (lf := lf) (ht := ht) (wd := wd) (c0 := c0) (r := r0 + k) hC (by omega) h1 kc hc
    refine ⟨t'', h3, fun r' c' => ?_⟩
    by_cases e : r' = r0 + k
    · have e1 : t' r' c' = t r' c' := (h2 r' c').2 (fun q => absurd q.1.1 (by omega))
      refine ⟨fun q => (h4 r' c').1 ⟨⟨e, q.1.2⟩, e1.trans q.2.1, q.2.2⟩, fun q => ?_⟩
      rw [← e1]
      exact (h4 r' c').2 (fun q2 => q ⟨⟨by omega, q2.1.2⟩, e1.symm.trans q2.2.1, q2.2.2⟩)
    · have e1 : t'' r' c' = t' r' c' := (h4 r' c').2 (fun q => e q.1.1)
      rw [e1]
      exact ⟨fun q => (h2 r' c').1 ⟨⟨by have := q.1.1; omega, q.1.2⟩, q.2⟩, fun q => (h2 r' c').2 (fun q2 => q ⟨⟨by have := q2.1.1; omega, q2.1.2⟩, q2.2⟩)⟩
theorem span_in {tp : Int} {ht rw r : Nat} (h : 0 ≤ (r : Int) - tp ∧ (r : Int) - tp ≤ (ht : Int) - 1) : (mx0 tp ≤ r ∧ r < mx0 tp + spanN tp ht rw) ↔ r < rw := by
  unfold spanN mx0
  omega
theorem span_le (tp : Int) (ht : Nat) {rw : Nat} (h : rw ≤ 16) : spanN tp ht rw = 0 ∨ mx0 tp + spanN tp ht rw ≤ 16 := by
  unfold spanN mx0
  omega
def svM (KD : Nat → Nat) (TP LF : Nat → Int) (HT WD CL FN : Nat → Nat) : Nat → ShT := fun n => (KD n, TP n, LF n, HT n, WD n, CL n, decide (FN n = 1))
theorem Rep_pic {OQ KD : Nat → Nat} {TP LF : Nat → Int} {HT WD CL FN : Nat → Nat} {SH : Nat → Option Nat} {rw cm ly : Nat} (hrw : rw ≤ 16) (hcm : cm ≤ 16) (hC : ∀ k, CL k < 16) (hS : ∀ k, k < ly → SH (OQ k) ≠ none) : ∀ m, m ≤ ly → ∃ t, Rep CL FN (dPic OQ SH (svM KD TP LF HT WD CL FN) rw cm ly m) t ∧ (∀ r c, ¬ (r < rw ∧ c < cm) → t r c = -1) ∧ (∀ r c, r < rw → c < cm → (t r c = -1 → topM OQ KD TP LF HT WD r c ly = topM OQ KD TP LF HT WD r c (ly - m)) ∧ (t r c ≠ -1 → t r c = topM OQ KD TP LF HT WD r c ly))
  | 0, _ => by
    refine ⟨fun _ _ => -1, ⟨fun _ _ _ _ => rfl, ?_, ?_, ?_⟩, fun _ _ _ => rfl, fun _ _ _ _ => ⟨fun _ => rfl, fun q => absurd rfl q⟩⟩
    · intro i r c _ _
      rw [colS_m1]
      exact ⟨fun q => absurd q (zero_tb c), fun q => absurd q.2 (zero_tb i)⟩
    · intro k r c _ _
      rw [colS_m1]
      exact ⟨fun q => absurd q (zero_tb c), fun q => absurd q.2.2.1.symm q.2.1⟩
    · intro r c _
      rw [colS_m1]
      exact ⟨fun q => absurd q (zero_tb c), fun q => absurd rfl q.2.1⟩
  | m + 1, hm => by
    obtain ⟨t, h1, h2, h3⟩ := Rep_pic (KD := KD) (TP := TP) (LF := LF) (HT := HT) (WD := WD) (FN := FN) hrw hcm hC hS m (by omega)
    show ∃ t', Rep CL FN (dStep SH (svM KD TP LF HT WD CL FN) rw cm (OQ (ly - 1 - m)) (dPic OQ SH (svM KD TP LF HT WD CL FN) rw cm ly m)) t' ∧ _
    have hs := hS (ly - 1 - m) (by omega)
    unfold dStep
    split
    · exact absurd (by assumption) hs
    · obtain ⟨t', h4, h5⟩ := Rep_shp (n := OQ (ly - 1 - m)) (kd := KD (OQ (ly - 1 - m))) (tp := TP (OQ (ly - 1 - m))) (lf := LF (OQ (ly - 1 - m))) (ht := HT (OQ (ly - 1 - m))) (wd := WD (OQ (ly - 1 - m))) hC (span_le (LF (OQ (ly - 1 - m))) (WD (OQ (ly - 1 - m))) hcm) h1 _ (span_le (TP (OQ (ly - 1 - m))) (HT (OQ (ly - 1 - m))) hrw)
      refine ⟨t', h4, fun r c hq => ?_, fun r c hr hc => ?_⟩
      · rw [(h5 r c).2 (fun q => hq ⟨(span_in q.2.2.1).mp q.1.1, (span_in q.2.2.2.1).mp q.1.2⟩)]
        exact h2 r c hq
      · obtain ⟨g1, g2⟩ := h3 r c hr hc
        have et : topM OQ KD TP LF HT WD r c (ly - m) = if covP (KD (OQ (ly - 1 - m))) (TP (OQ (ly - 1 - m))) (LF (OQ (ly - 1 - m))) (HT (OQ (ly - 1 - m))) (WD (OQ (ly - 1 - m))) (r : Int) (c : Int) then ((OQ (ly - 1 - m) : Nat) : Int) else topM OQ KD TP LF HT WD r c (ly - (m + 1)) := by
          rw [show ly - m = (ly - 1 - m) + 1 by omega, topM, show ly - (m + 1) = ly - 1 - m by omega]
        by_cases e : t r c = -1
        · by_cases e2 : covP (KD (OQ (ly - 1 - m))) (TP (OQ (ly - 1 - m))) (LF (OQ (ly - 1 - m))) (HT (OQ (ly - 1 - m))) (WD (OQ (ly - 1 - m))) (r : Int) (c : Int)
          · rw [if_pos e2] at et
            have e3 := (h5 r c).1 ⟨⟨(span_in e2.1).mpr hr, (span_in e2.2.1).mpr hc⟩, e, e2⟩
            rw [e3]
            exact ⟨fun q => absurd q (by omega), fun _ => by rw [g1 e, et]⟩
          · rw [if_neg e2] at et
            have e3 := (h5 r c).2 (fun q => e2 q.2.2)
            rw [e3]
            exact ⟨fun _ => by rw [g1 e, et], fun q => absurd e q⟩
        · have e3 := (h5 r c).2 (fun q => e q.2.1)
          rw [e3]
          exact ⟨fun q => absurd q e, g2⟩
/-- the finished picture: t is the page as the model finds it -/
def tPg (OQ KD : Nat → Nat) (TP LF : Nat → Int) (HT WD : Nat → Nat) (rw cm ly : Nat) : Nat → Nat → Int := fun r c => if r < rw ∧ c < cm then topF OQ KD TP LF HT WD ly r c else -1
theorem pic_rep {OQ KD : Nat → Nat} {TP LF : Nat → Int} {HT WD CL FN : Nat → Nat} {SH : Nat → Option Nat} {rw cm ly : Nat} (hrw : rw ≤ 16) (hcm : cm ≤ 16) (hC : ∀ k, CL k < 16) (hS : ∀ k, k < ly → SH (OQ k) ≠ none) : Rep CL FN (dPic OQ SH (svM KD TP LF HT WD CL FN) rw cm ly ly) (tPg OQ KD TP LF HT WD rw cm ly) := by
  obtain ⟨t, h1, h2, h3⟩ := Rep_pic (KD := KD) (TP := TP) (LF := LF) (HT := HT) (WD := WD) (FN := FN) hrw hcm hC hS ly (Nat.le_refl _)
  have e : t = tPg OQ KD TP LF HT WD rw cm ly := by
    funext r c
    unfold tPg
    by_cases q : r < rw ∧ c < cm
    · rw [if_pos q]
      obtain ⟨g1, g2⟩ := h3 r c q.1 q.2
      by_cases e : t r c = -1
      · rw [e]
        have := g1 e
        rw [Nat.sub_self] at this
        exact this.symm
      · exact g2 e
    · rw [if_neg q]
      exact h2 r c q
  rw [← e]
  exact h1
