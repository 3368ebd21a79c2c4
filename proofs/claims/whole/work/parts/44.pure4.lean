/-! counts -/
theorem cntC_cong {f g : Nat → Nat → Nat} {r : Nat} : ∀ n, (∀ c, c < n → f r c = g r c) → cntC f r n = cntC g r n
  | 0, _ => rfl
  | n + 1, h => by
    show cntC f r n + f r n = cntC g r n + g r n
    rw [cntC_cong n (fun c hc => h c (by omega)), h n (by omega)]
theorem cntC_zero {f : Nat → Nat → Nat} {r m : Nat} : ∀ n, m ≤ n → (∀ c, m ≤ c → f r c = 0) → cntC f r n = cntC f r m
  | 0, h, _ => by rw [show m = 0 by omega]
  | n + 1, h, hz => by
    rcases Nat.lt_or_ge n m with g | g
    · rw [show n + 1 = m by omega]
    · show cntC f r n + f r n = _
      rw [cntC_zero n g hz, hz n g, Nat.add_zero]
theorem cntR_cong {f g : Nat → Nat → Nat} {cm : Nat} : ∀ n, (∀ r c, r < n → c < cm → f r c = g r c) → cntR f cm n = cntR g cm n
  | 0, _ => rfl
  | n + 1, h => by
    show cntR f cm n + cntC f n cm = cntR g cm n + cntC g n cm
    rw [cntR_cong n (fun r c hr hc => h r c (by omega) hc), cntC_cong cm (fun c hc => h n c (by omega) hc)]
theorem cntR_wide {f : Nat → Nat → Nat} {cm k : Nat} (hk : cm ≤ k) (hz : ∀ r c, cm ≤ c → f r c = 0) : ∀ n, cntR f k n = cntR f cm n
  | 0 => rfl
  | n + 1 => by
    show cntR f k n + cntC f n k = cntR f cm n + cntC f n cm
    rw [cntR_wide hk hz n, cntC_zero k hk (fun c hc => hz n c hc)]
theorem cntC_all0 {f : Nat → Nat → Nat} {r : Nat} : ∀ n, (∀ c, f r c = 0) → cntC f r n = 0
  | 0, _ => rfl
  | n + 1, h => by
    show cntC f r n + f r n = 0
    rw [cntC_all0 n h, h n]
theorem cntR_zero {f : Nat → Nat → Nat} {cm m : Nat} : ∀ n, m ≤ n → (∀ r c, m ≤ r → f r c = 0) → cntR f cm n = cntR f cm m
  | 0, h, _ => by rw [show m = 0 by omega]
  | n + 1, h, hz => by
    rcases Nat.lt_or_ge n m with g | g
    · rw [show n + 1 = m by omega]
    · show cntR f cm n + cntC f n cm = _
      rw [cntR_zero n g hz, cntC_all0 cm (fun c => hz n c g), Nat.add_zero]
/-- a sum over the whole grid is one over the page -/
theorem cnt_page {f : Nat → Nat → Nat} {rw cm : Nat} (hr : rw ≤ 16) (hc : cm ≤ 16) (h0 : ∀ r c, ¬ (r < rw ∧ c < cm) → f r c = 0) : cntR f 16 16 = cntR f cm rw := by
  rw [cntR_wide hc (fun r c h => h0 r c (by omega)), cntR_zero 16 hr (fun r c h => h0 r c (by omega))]
theorem popN_cnt (f : Nat → Nat) (r : Nat) : ∀ k, popN (f r) k = cntC (fun r c => if (f r).testBit c = true then 1 else 0) r k
  | 0 => rfl
  | k + 1 => by
    show popN (f r) k + _ = cntC (fun r c => if (f r).testBit c = true then 1 else 0) r k + _
    rw [popN_cnt f r k]
theorem sumP_cnt (f : Nat → Nat) : ∀ n, sumP f n = cntR (fun r c => if (f r).testBit c = true then 1 else 0) 16 n
  | 0 => rfl
  | n + 1 => by
    show sumP f n + popN (f n) 16 = _
    rw [sumP_cnt f n, popN_cnt]
    rfl
theorem sum_eq {f : Nat → Nat} {rw cm : Nat} {Q : Nat → Nat → Prop} [∀ r c, Decidable (Q r c)] (hr : rw ≤ 16) (hc : cm ≤ 16) (h : ∀ r c, r < 16 → ((f r).testBit c = true ↔ (r < rw ∧ c < cm) ∧ Q r c)) : sumP f 16 = cntR (fun r c => if Q r c then 1 else 0) cm rw := by
  rw [sumP_cnt]
  have e : cntR (fun r c => if (f r).testBit c = true then 1 else 0) 16 16 = cntR (fun r c => if (r < rw ∧ c < cm) ∧ Q r c then 1 else 0) 16 16 := cntR_cong 16 (fun r c hr hc => by
    by_cases q : (f r).testBit c = true
    · rw [if_pos q, if_pos ((h r c hr).mp q)]
    · rw [if_neg q, if_neg (fun q2 => q ((h r c hr).mpr q2))])
  rw [e, cnt_page hr hc (fun r c q => by rw [if_neg (fun q2 => q q2.1)])]
  exact cntR_cong rw (fun r c hr hc => by
    by_cases q : Q r c
    · rw [if_pos ⟨⟨hr, hc⟩, q⟩, if_pos q]
    · rw [if_neg (fun q2 => q q2.2), if_neg q])
theorem crwC_cnt (FS : Nat → Nat) (r : Nat) : ∀ n, crwC FS r n = cntC (fun r c => if 2 < pop (lyThru FS (r : Int) (c : Int) 4) then 1 else 0) r n
  | 0 => rfl
  | n + 1 => by
    show crwC FS r n + _ = _
    rw [crwC_cnt FS r n]
    rfl
theorem crw_cnt (FS : Nat → Nat) : ∀ n, crw FS n = cntR (fun r c => if 2 < pop (lyThru FS (r : Int) (c : Int) 4) then 1 else 0) 16 n
  | 0 => rfl
  | n + 1 => by
    show crw FS n + crwC FS n 16 = _
    rw [crw_cnt FS n, crwC_cnt]
    rfl
theorem crw_eq {FS : Nat → Nat} {rw cm : Nat} {v : Nat → Nat → Nat} (h : LayV FS rw cm v) (hr : rw ≤ 16) (hc : cm ≤ 16) (hv : ∀ r c, v r c < 16) : crw FS 16 = cntR (fun r c => if 2 < pop (v r c) then 1 else 0) cm rw := by
  rw [crw_cnt, cnt_page hr hc (fun r c q => by rw [thru_off h hr hc q]; rfl)]
  exact cntR_cong rw (fun r c h1 h2 => by rw [thru_eq h hr hc hv h1 h2])
theorem cntE_cnt (SE : Nat → Int) (n : Int) : ∀ k r, r < 16 → k ≤ 16 → cntE SE n (r * 16 + k) = cntE SE n (r * 16) + cntC (fun r c => if SE (r * 16 + c) = n then 1 else 0) r k
  | 0, r, _, _ => rfl
  | k + 1, r, hr, hk => by
    show cntE SE n (r * 16 + k) + _ = _
    rw [cntE_cnt SE n k r hr (by omega), Nat.add_assoc]
    rfl
theorem cntE_cnt2 (SE : Nat → Int) (n : Int) : ∀ r, r ≤ 16 → cntE SE n (r * 16) = cntR (fun r c => if SE (r * 16 + c) = n then 1 else 0) 16 r
  | 0, _ => rfl
  | r + 1, h => by
    rw [show (r + 1) * 16 = r * 16 + 16 by omega, cntE_cnt SE n 16 r (by omega) (by omega), cntE_cnt2 SE n r (by omega)]
    rfl
theorem cells_eq {SE : Nat → Int} {t : Nat → Nat → Int} {rw cm : Nat} (hr : rw ≤ 16) (hc : cm ≤ 16) (h : ∀ r c, r < 16 → c < 16 → SE (r * 16 + c) = t r c) (h0 : ∀ r c, ¬ (r < rw ∧ c < cm) → t r c = -1) (n : Nat) : cntE SE (n : Int) 256 = cntR (fun r c => if t r c = (n : Int) then 1 else 0) cm rw := by
  rw [show 256 = 16 * 16 by decide, cntE_cnt2 SE n 16 (by omega)]
  rw [cntR_cong (g := fun r c => if t r c = (n : Int) then 1 else 0) 16 (fun r c hr hc => by rw [h r c hr hc])]
  exact cnt_page hr hc (fun r c q => by rw [h0 r c q, if_neg (by omega)])
/-! a layer's size -/
def sumN (f : Nat → Nat) : Nat → Nat
  | 0 => 0
  | k + 1 => sumN f k + f k
theorem sumN_add (f g : Nat → Nat) : ∀ k, sumN (fun i => f i + g i) k = sumN f k + sumN g k
  | 0 => rfl
  | k + 1 => by
    show sumN (fun i => f i + g i) k + (f k + g k) = (sumN f k + f k) + (sumN g k + g k)
    rw [sumN_add f g k]
    omega
theorem sumN_zero : ∀ k, sumN (fun _ => 0) k = 0
  | 0 => rfl
  | k + 1 => by
    show sumN (fun _ => 0) k + 0 = 0
    rw [sumN_zero k]
theorem lySz_blk (F : Nat → Nat) (i : Nat) : ∀ k, lySz F (i * 16 + k) = lySz F (i * 16) + sumP (fun r => F (i * 16 + r)) k
  | 0 => rfl
  | k + 1 => by
    show lySz F (i * 16 + k) + pop (F (i * 16 + k)) = _
    rw [lySz_blk F i k, Nat.add_assoc]
    rfl
theorem lySz_sum (F : Nat → Nat) : ∀ i, lySz F (i * 16) = sumN (fun i => sumP (fun r => F (i * 16 + r)) 16) i
  | 0 => rfl
  | i + 1 => by
    rw [show (i + 1) * 16 = i * 16 + 16 by omega, lySz_blk, lySz_sum F i]
    rfl
theorem cntC_ex (f : Nat → Nat → Nat → Nat) (r n : Nat) : ∀ c, sumN (fun i => cntC (f i) r c) n = cntC (fun r c => sumN (fun i => f i r c) n) r c
  | 0 => sumN_zero n
  | c + 1 => by
    show sumN (fun i => cntC (f i) r c + f i r c) n = _
    rw [sumN_add, cntC_ex f r n c]
    rfl
theorem cntR_ex (f : Nat → Nat → Nat → Nat) (cm n : Nat) : ∀ r, sumN (fun i => cntR (f i) cm r) n = cntR (fun r c => sumN (fun i => f i r c) n) cm r
  | 0 => sumN_zero n
  | r + 1 => by
    show sumN (fun i => cntR (f i) cm r + cntC (f i) r cm) n = _
    rw [sumN_add, cntR_ex f cm n r, cntC_ex]
    rfl
theorem sumN_cong {f g : Nat → Nat} : ∀ k, (∀ i, i < k → f i = g i) → sumN f k = sumN g k
  | 0, _ => rfl
  | k + 1, h => by
    show sumN f k + f k = sumN g k + g k
    rw [sumN_cong k (fun i hi => h i (by omega)), h k (by omega)]
theorem popN_sum (x : Nat) : ∀ k, popN x k = sumN (fun i => if x.testBit i = true then 1 else 0) k
  | 0 => rfl
  | k + 1 => by
    show popN x k + _ = _
    rw [popN_sum x k]
    rfl
theorem pop4 {x : Nat} (h : x < 16) : pop x = sumN (fun i => if x.testBit i = true then 1 else 0) 4 := by
  have e : ∀ k, sumN (fun i => if x.testBit i = true then 1 else 0) (4 + k) = sumN (fun i => if x.testBit i = true then 1 else 0) 4 := by
    intro k
    induction k with
    | zero => rfl
    | succ k ih =>
      show sumN (fun i => if x.testBit i = true then 1 else 0) (4 + k) + (if x.testBit (4 + k) = true then 1 else 0) = _
      rw [ih, if_neg (big_tb (n := 4) h (by omega)), Nat.add_zero]
  exact (popN_sum x 16).trans (e 12)
theorem size_eq {F : Nat → Nat} {rw cm : Nat} {v : Nat → Nat → Nat} (h : LayV F rw cm v) (hr : rw ≤ 16) (hc : cm ≤ 16) (hv : ∀ r c, v r c < 16) : lySz F (4 * 16) = cntR (fun r c => pop (v r c)) cm rw := by
  rw [lySz_sum]
  have e : sumN (fun i => sumP (fun r => F (i * 16 + r)) 16) 4 = sumN (fun i => cntR (fun r c => if (v r c).testBit i = true then 1 else 0) cm rw) 4 := sumN_cong 4 (fun i hi => sum_eq (f := fun r => F (i * 16 + r)) (Q := fun r c => (v r c).testBit i = true) hr hc (fun r c hr16 => h i r c hi hr16))
  rw [e, cntR_ex]
  exact cntR_cong rw (fun r c _ _ => (pop4 (hv r c)).symm)
/-! bare, if one plate lies off -/
theorem mvd_tb {x c : Nat} {ac : Int} : (mvd x ac).testBit c = true ↔ ∃ d : Nat, (c : Int) - ac = (d : Int) ∧ x.testBit d = true := by
  unfold mvd
  by_cases h : 0 ≤ ac
  · rw [if_pos h, shl_tb]
    constructor
    · rintro ⟨h1, h2⟩
      exact ⟨c - ac.toNat, by omega, h2⟩
    · rintro ⟨d, h1, h2⟩
      exact ⟨by omega, by rw [show c - ac.toNat = d by omega]; exact h2⟩
  · rw [if_neg h, shr_tb]
    constructor
    · intro h2
      exact ⟨(-ac).toNat + c, by omega, h2⟩
    · rintro ⟨d, h1, h2⟩
      rw [show (-ac).toNat + c = d by omega]
      exact h2
theorem bif_tb {FI FP CA PA : Nat → Nat} {rw cm : Nat} (h1 : LayV FI rw cm (fun r c => CA (16 * r + c))) (h2 : LayV FP rw cm (fun r c => PA (16 * r + c))) (hC : ∀ k, CA k < 16) (hr : rw ≤ 16) (hc : cm ≤ 16) {a : Nat} (ha : a < 4) {dw ac : Int} {r c : Nat} (hr16 : r < 16) : (bifW FI FP a dw ac r).testBit c = true ↔ (r < rw ∧ c < cm) ∧ barP CA PA rw cm r c a dw ac := by
  unfold bifW
  rw [and_tb, and_tb, any_ne0 h1 (fun r c => hC _) hr16]
  by_cases hp : r < rw ∧ c < cm
  · rw [not_tb (by omega), not_tb (by omega), any_lay h2 hr16, mvd_tb]
    have hsh : ∀ (i : Nat) (z e : Int), i < 4 → (shwP PA rw cm i z e ↔ ∃ r c : Nat, (r < rw ∧ c < cm) ∧ z = (r : Int) ∧ e = (c : Int) ∧ (PA (16 * r + c)).testBit i = true) := fun i z e _ => shw_tb
    constructor
    · rintro ⟨⟨⟨q1, q2⟩, q3⟩, q4⟩
      refine ⟨hp, q2, fun i hi q5 => ?_⟩
      rw [shw_tb] at q5
      obtain ⟨r', c', g1, g2, g3, g4⟩ := q5
      by_cases e : i = a
      · rw [if_pos e] at g2
        rw [if_pos e] at g3
        subst e
        apply q4
        refine ⟨c', g3, ?_⟩
        rw [lyW_tb]
        exact ⟨r', by omega, g2, (h2 i r' c' hi (by omega)).mpr ⟨g1, g4⟩⟩
      · rw [if_neg e] at g2
        rw [if_neg e] at g3
        apply q3
        refine ⟨hp, i, hi, by omega, ?_⟩
        rw [show r = r' by omega, show c = c' by omega]
        exact g4
    · rintro ⟨-, q2, q3⟩
      refine ⟨⟨⟨hp, q2⟩, ?_⟩, ?_⟩
      · rintro ⟨-, i, g1, g2, g3⟩
        apply q3 i g1
        rw [if_neg (by omega), if_neg (by omega), shw_tb]
        exact ⟨r, c, hp, by omega, by omega, g3⟩
      · rintro ⟨d, g1, g2⟩
        rw [lyW_tb] at g2
        obtain ⟨r', g3, g4, g5⟩ := g2
        rw [h2 a r' d ha g3] at g5
        apply q3 a ha
        rw [if_pos rfl, if_pos rfl, shw_tb]
        exact ⟨r', d, g5.1, g4, g1, g5.2⟩
  · exact ⟨fun q => absurd q.1.1.1 hp, fun q => absurd q.1 hp⟩
theorem bare_eq {FI FP CA PA : Nat → Nat} {rw cm : Nat} (h1 : LayV FI rw cm (fun r c => CA (16 * r + c))) (h2 : LayV FP rw cm (fun r c => PA (16 * r + c))) (hC : ∀ k, CA k < 16) (hr : rw ≤ 16) (hc : cm ≤ 16) {a : Nat} (ha : a < 4) (dw ac : Int) : sumP (bifW FI FP a dw ac) 16 = cntR (fun r c => if barB CA PA rw cm r c a dw ac = true then 1 else 0) cm rw :=
  sum_eq hr hc (fun r c hr16 => by rw [bif_tb h1 h2 hC hr hc ha hr16]; exact ⟨fun q => ⟨q.1, decide_eq_true q.2⟩, fun q => ⟨q.1, of_decide_eq_true q.2⟩⟩)
/-! inner cells, safe distances -/
theorem lyAnd_tb {F : Nat → Nat} {a x : Nat} {z : Int} {c : Nat} : ∀ k, (lyAnd F a x z k).testBit c = true ↔ x.testBit c = true ∧ ∀ j : Nat, j < k → (lyW F a (z + (j : Int))).testBit c = true
  | 0 => ⟨fun q => ⟨q, fun j h => absurd h (by omega)⟩, fun q => q.1⟩
  | k + 1 => by
    unfold lyAnd
    rw [and_tb, lyAnd_tb k]
    constructor
    · rintro ⟨⟨q1, q2⟩, q3⟩
      exact ⟨q1, sf_one q2 q3⟩
    · rintro ⟨q1, q2⟩
      exact ⟨⟨q1, fun j hj => q2 j (by omega)⟩, q2 k (by omega)⟩
theorem lyShr_tb {x c : Nat} : ∀ n, (lyShr x n).testBit c = true ↔ n ≤ c ∧ ∀ d, d ≤ c + n → c ≤ d + n → x.testBit d = true
  | 0 => by
    constructor
    · intro q
      exact ⟨by omega, fun d h1 h2 => by rw [show d = c by omega]; exact q⟩
    · intro q
      exact q.2 c (by omega) (by omega)
  | n + 1 => by
    unfold lyShr
    rw [and_tb, and_tb, lyShr_tb n, shl_tb, shr_tb]
    constructor
    · rintro ⟨⟨q1, q2⟩, ⟨q3, q4⟩, q5⟩
      refine ⟨q3, fun d h1 h2 => ?_⟩
      by_cases g : d ≤ c + n ∧ c ≤ d + n
      · exact q2 d g.1 g.2
      · rcases Nat.lt_or_ge d c with g2 | g2
        · rw [show d = c - (n + 1) by omega]
          exact q4
        · rw [show d = n + 1 + c by omega]
          exact q5
    · rintro ⟨q1, q2⟩
      exact ⟨⟨by omega, fun d h1 h2 => q2 d (by omega) (by omega)⟩, ⟨q1, q2 _ (by omega) (by omega)⟩, q2 _ (by omega) (by omega)⟩
theorem sur_tb {F : Nat → Nat} {k r n c : Nat} : (lySur F k (r : Int) n).testBit c = true ↔ ∀ a, a < 2 * n + 1 → ∀ b, b < 2 * n + 1 → ∃ r' c' : Nat, (r : Int) - n + (a : Int) = (r' : Int) ∧ (c : Int) - n + (b : Int) = (c' : Int) ∧ r' < 16 ∧ (F (k * 16 + r')).testBit c' = true := by
  unfold lySur
  rw [lyShr_tb]
  constructor
  · rintro ⟨q1, q2⟩ a ha b hb
    have q3 := q2 (c - n + b) (by omega) (by omega)
    rw [lyAnd_tb] at q3
    have q4 := q3.2 a ha
    rw [lyW_tb] at q4
    obtain ⟨r', g1, g2, g3⟩ := q4
    exact ⟨r', c - n + b, by omega, by omega, g1, g3⟩
  · intro q
    refine ⟨?_, fun d h1 h2 => ?_⟩
    · obtain ⟨r', c', -, g2, -, -⟩ := q 0 (by omega) 0 (by omega)
      omega
    · rw [lyAnd_tb]
      have key : ∀ a, a < 2 * n + 1 → (lyW F k ((r : Int) - n + (a : Int))).testBit d = true := by
        intro a ha
        obtain ⟨r', c', g1, g2, g3, g4⟩ := q a ha (d + n - c) (by omega)
        rw [lyW_tb]
        exact ⟨r', g3, g1, by rw [show d = c' by omega]; exact g4⟩
      refine ⟨?_, fun a ha => key a ha⟩
      have := key n (by omega)
      rw [show (r : Int) - n + (n : Int) = (r : Int) by omega] at this
      exact this
theorem inn_tb {FD CA : Nat → Nat} {FA : Nat → Bool} {rw cm : Nat} (hr : rw ≤ 16) (hD : ∀ r c, r < 16 → ((FD (0 * 16 + r)).testBit c = true ↔ (r < rw ∧ c < cm) ∧ CA (16 * r + c) ≠ 0 ∧ FA (16 * r + c) = false)) {r c n : Nat} : (lySur FD 0 (r : Int) n).testBit c = true ↔ innP CA FA rw cm r c n := by
  rw [sur_tb]
  constructor
  · intro q a ha b hb
    obtain ⟨r', c', g1, g2, g3, g4⟩ := q a ha b hb
    rw [hD r' c' g3] at g4
    rw [g1, g2, show (16 * (r' : Int) + (c' : Int)).toNat = 16 * r' + c' by omega]
    exact ⟨by omega, g4.2⟩
  · intro q a ha b hb
    obtain ⟨g1, g2⟩ := q a ha b hb
    obtain ⟨r', hr'⟩ : ∃ r' : Nat, (r : Int) - n + (a : Int) = (r' : Int) := ⟨((r : Int) - n + (a : Int)).toNat, by omega⟩
    obtain ⟨c', hc'⟩ : ∃ c' : Nat, (c : Int) - n + (b : Int) = (c' : Int) := ⟨((c : Int) - n + (b : Int)).toNat, by omega⟩
    rw [hr', hc'] at g1 g2
    rw [show (16 * (r' : Int) + (c' : Int)).toNat = 16 * r' + c' by omega] at g2
    exact ⟨r', c', hr', hc', by omega, (hD r' c' (by omega)).mpr ⟨by omega, g2⟩⟩
theorem surP_tb {FP PA : Nat → Nat} {rw cm : Nat} (h : LayV FP rw cm (fun r c => PA (16 * r + c))) (hr : rw ≤ 16) {i r n c : Nat} (hi : i < 4) : (lySur FP i (r : Int) n).testBit c = true ↔ ∀ a, a < 2 * n + 1 → ∀ b, b < 2 * n + 1 → shwP PA rw cm i ((r : Int) - n + (a : Int)) ((c : Int) - n + (b : Int)) := by
  rw [sur_tb]
  constructor
  · intro q a ha b hb
    obtain ⟨r', c', g1, g2, g3, g4⟩ := q a ha b hb
    rw [h i r' c' hi g3] at g4
    rw [shw_tb]
    exact ⟨r', c', g4.1, g1, g2, g4.2⟩
  · intro q a ha b hb
    have q1 := q a ha b hb
    rw [shw_tb] at q1
    obtain ⟨r', c', g1, g2, g3, g4⟩ := q1
    exact ⟨r', c', g2, g3, by omega, (h i r' c' hi (by omega)).mpr ⟨g1, g4⟩⟩
theorem saf_iff {FD FP CA PA : Nat → Nat} {FA : Nat → Bool} {rw cm : Nat} (hr : rw ≤ 16) (hc : cm ≤ 16) (hD : ∀ r c, r < 16 → ((FD (0 * 16 + r)).testBit c = true ↔ (r < rw ∧ c < cm) ∧ CA (16 * r + c) ≠ 0 ∧ FA (16 * r + c) = false)) (h : LayV FP rw cm (fun r c => PA (16 * r + c))) (n : Nat) : safP FD FP n ↔ sfmP CA FA PA rw cm n := by
  constructor
  · intro q r hr1 c hc1 ⟨q1, q2⟩
    have q3 : innP CA FA rw cm r c n := of_decide_eq_true q1
    have q4 : ¬ styP CA PA rw cm r c n := of_decide_eq_false q2
    apply q4
    intro i hi a ha b hb
    refine decide_eq_false (fun q5 => ?_)
    have q6 := q r (by omega) i hi
    have q7 : ¬ (sfX FD FP n r i).testBit c = true := by
      rw [q6]
      exact zero_tb c
    apply q7
    unfold sfX
    rw [and_tb, and_tb, not_tb (by omega), not_tb (by omega), inn_tb hr hD, any_lay h (by omega), surP_tb h hr hi]
    refine ⟨⟨q3, ?_⟩, ?_⟩
    · rintro ⟨-, k, g1, g2, g3⟩
      apply q5.2 k g1
      rw [if_neg (by omega), if_neg (by omega), shw_tb]
      exact ⟨r, c, ⟨hr1, hc1⟩, by omega, by omega, g3⟩
    · intro g
      apply q5.2 i hi
      rw [if_pos rfl, if_pos rfl]
      have := g (2 * n - a) (by omega) (2 * n - b) (by omega)
      rw [show (r : Int) - n + ((2 * n - a : Nat) : Int) = (r : Int) - (-(n : Int) + (a : Int)) by omega, show (c : Int) - n + ((2 * n - b : Nat) : Int) = (c : Int) - (-(n : Int) + (b : Int)) by omega] at this
      exact this
  · intro q r hr1 i hi
    apply Classical.byContradiction
    intro q1
    obtain ⟨c, hc1⟩ := ne0_tb.mp q1
    have hcc : c < 32 := by
      unfold sfX at hc1
      rw [and_tb, and_tb, inn_tb hr hD] at hc1
      have := (hc1.1.1 n (by omega) n (by omega)).1.2
      omega
    unfold sfX at hc1
    rw [and_tb, and_tb, not_tb hcc, not_tb hcc, inn_tb hr hD, any_lay h hr1, surP_tb h hr hi] at hc1
    obtain ⟨⟨g1, g2⟩, g3⟩ := hc1
    have g4 := (g1 n (by omega) n (by omega)).1
    have g5 : r < rw ∧ c < cm := by omega
    have g6 : CA (16 * r + c) ≠ 0 := by
      have := (g1 n (by omega) n (by omega)).2.1
      rw [show (16 * ((r : Int) - n + (n : Int)) + ((c : Int) - n + (n : Int))).toNat = 16 * r + c by omega] at this
      exact this
    apply q r g5.1 c g5.2
    refine ⟨decide_eq_true g1, decide_eq_false (fun g7 => g3 (fun a ha b hb => ?_))⟩
    have g8 := of_decide_eq_false (g7 i hi (2 * n - a) (by omega) (2 * n - b) (by omega))
    apply Classical.byContradiction
    intro g9
    apply g8
    refine ⟨g6, fun k hk g10 => ?_⟩
    by_cases e : k = i
    · rw [if_pos e, if_pos e, e] at g10
      apply g9
      rw [show (r : Int) - n + (a : Int) = (r : Int) - (-(n : Int) + ((2 * n - a : Nat) : Int)) by omega, show (c : Int) - n + (b : Int) = (c : Int) - (-(n : Int) + ((2 * n - b : Nat) : Int)) by omega]
      exact g10
    · rw [if_neg e, if_neg e, shw_tb] at g10
      obtain ⟨r', c', b1, b2, b3, b4⟩ := g10
      apply g2
      refine ⟨g5, k, hk, by omega, ?_⟩
      rw [show r = r' by omega, show c = c' by omega]
      exact b4
theorem safe_eq {FD FP CA PA : Nat → Nat} {FA : Nat → Bool} {rw cm : Nat} (h : ∀ n, safP FD FP n ↔ sfmP CA FA PA rw cm n) : ∀ k n, safR FD FP k n = safM (sfmB CA FA PA rw cm) k n
  | 0, n => rfl
  | k + 1, n => by
    unfold safR safM
    by_cases q : safP FD FP (n + 1)
    · rw [if_pos q, if_pos (show sfmB CA FA PA rw cm (n + 1) = true from decide_eq_true ((h _).mp q)), safe_eq h k (n + 1)]
    · rw [if_neg q, if_neg (fun q2 : sfmB CA FA PA rw cm (n + 1) = true => q ((h _).mpr (of_decide_eq_true q2)))]
