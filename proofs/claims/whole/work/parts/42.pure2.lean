/-! plates, cell by cell -/
theorem lyW_tb {F : Nat → Nat} {a : Nat} {z : Int} {c : Nat} : (lyW F a z).testBit c = true ↔ ∃ r : Nat, r < 16 ∧ z = (r : Int) ∧ (F (a * 16 + r)).testBit c = true := by
  unfold lyW
  by_cases h : 0 ≤ z ∧ z < 16
  · rw [if_pos h]
    constructor
    · intro q
      exact ⟨z.toNat, by omega, by omega, q⟩
    · rintro ⟨r, h1, rfl, h3⟩
      exact h3
  · rw [if_neg h]
    constructor
    · intro q
      exact absurd q (zero_tb c)
    · rintro ⟨r, h1, rfl, h3⟩
      exact absurd (by omega) h
theorem lyW_n {F : Nat → Nat} {a r : Nat} (h : r < 16) : lyW F a (r : Int) = F (a * 16 + r) := by
  unfold lyW
  rw [if_pos (by omega)]
  rfl
theorem lyOr_tb {F : Nat → Nat} {a : Nat} {z : Int} {c : Nat} : ∀ k, (lyOr F a z k).testBit c = true ↔ ∃ j, j < k ∧ (lyW F a (z + (j : Int))).testBit c = true
  | 0 => ⟨fun q => absurd q (zero_tb c), fun ⟨j, h, _⟩ => absurd h (by omega)⟩
  | k + 1 => by
    unfold lyOr
    rw [or_tb, lyOr_tb k]
    constructor
    · rintro (⟨j, h1, h2⟩ | h)
      · exact ⟨j, by omega, h2⟩
      · exact ⟨k, by omega, h⟩
    · rintro ⟨j, h1, h2⟩
      rcases Nat.lt_or_ge j k with g | g
      · exact Or.inl ⟨j, g, h2⟩
      · obtain rfl : j = k := by omega
        exact Or.inr h2
theorem lyGrow_tb {x c : Nat} : ∀ n, (lyGrow x n).testBit c = true ↔ ∃ d, (d ≤ c + n ∧ c ≤ d + n) ∧ x.testBit d = true
  | 0 => by
    constructor
    · intro q
      exact ⟨c, by omega, q⟩
    · rintro ⟨d, h1, h2⟩
      obtain rfl : d = c := by omega
      exact h2
  | n + 1 => by
    unfold lyGrow
    rw [or_tb, or_tb, lyGrow_tb n, shl_tb, shr_tb]
    constructor
    · rintro (⟨d, h1, h2⟩ | h | h)
      · exact ⟨d, by omega, h2⟩
      · exact ⟨c - (n + 1), by omega, h.2⟩
      · exact ⟨n + 1 + c, by omega, h⟩
    · rintro ⟨d, h1, h2⟩
      by_cases g : d ≤ c + n ∧ c ≤ d + n
      · exact Or.inl ⟨d, g, h2⟩
      · rcases Nat.lt_or_ge d c with g2 | g2
        · exact Or.inr (Or.inl ⟨by omega, by rw [show c - (n + 1) = d by omega]; exact h2⟩)
        · exact Or.inr (Or.inr (by rw [show n + 1 + c = d by omega]; exact h2))
theorem near_tb {F : Nat → Nat} {a r n c : Nat} : (lyNear F a (r : Int) n).testBit c = true ↔ ∃ r' c', r' < 16 ∧ (r' ≤ r + n ∧ r ≤ r' + n) ∧ (c' ≤ c + n ∧ c ≤ c' + n) ∧ (F (a * 16 + r')).testBit c' = true := by
  unfold lyNear
  rw [lyGrow_tb]
  constructor
  · rintro ⟨d, h1, h2⟩
    rw [lyOr_tb] at h2
    obtain ⟨j, h3, h4⟩ := h2
    rw [lyW_tb] at h4
    obtain ⟨r', h5, h6, h7⟩ := h4
    exact ⟨r', d, h5, by omega, h1, h7⟩
  · rintro ⟨r', c', h1, h2, h3, h4⟩
    refine ⟨c', h3, ?_⟩
    rw [lyOr_tb]
    refine ⟨(r' + n) - r, by omega, ?_⟩
    rw [lyW_tb]
    exact ⟨r', h1, by omega, h4⟩
theorem opn_tb {F : Nat → Nat} {cs : Nat} {z : Int} {c : Nat} : ∀ n, (opn F cs z n).testBit c = true ↔ ∃ k, (1 ≤ k ∧ k ≤ n) ∧ cs.testBit k = true ∧ (lyW F k z).testBit c = true
  | 0 => ⟨fun q => absurd q (zero_tb c), fun ⟨j, h, _⟩ => absurd h (by omega)⟩
  | n + 1 => by
    unfold opn
    by_cases hb : (cs >>> (n + 1)) &&& 1 = 1
    · rw [if_pos hb, or_tb, opn_tb n]
      rw [bit_tb] at hb
      constructor
      · rintro (⟨k, h1, h2⟩ | h)
        · exact ⟨k, by omega, h2⟩
        · exact ⟨n + 1, by omega, hb, h⟩
      · rintro ⟨k, h1, h2⟩
        rcases Nat.lt_or_ge n k with g | g
        · obtain rfl : k = n + 1 := by omega
          exact Or.inr h2.2
        · exact Or.inl ⟨k, by omega, h2⟩
    · rw [if_neg hb, opn_tb n]
      rw [bit_tb] at hb
      constructor
      · rintro ⟨k, h1, h2⟩
        exact ⟨k, by omega, h2⟩
      · rintro ⟨k, h1, h2⟩
        rcases Nat.lt_or_ge n k with g | g
        · obtain rfl : k = n + 1 := by omega
          exact absurd h2.1 hb
        · exact ⟨k, by omega, h2⟩
theorem dkr_tb {WT : Nat → Nat} {d k : Nat} : ∀ n, (dkr WT d n).testBit k = true ↔ k < n ∧ lightP WT d k
  | 0 => ⟨fun q => absurd q (zero_tb k), fun h => absurd h.1 (by omega)⟩
  | n + 1 => by
    unfold dkr
    by_cases hb : lightP WT d n
    · rw [if_pos hb, or_tb, dkr_tb n, one_tb]
      constructor
      · rintro (h | rfl)
        · exact ⟨by omega, h.2⟩
        · exact ⟨by omega, hb⟩
      · rintro ⟨h1, h2⟩
        rcases Nat.lt_or_ge k n with g | g
        · exact Or.inl ⟨g, h2⟩
        · exact Or.inr (by omega)
    · rw [if_neg hb, dkr_tb n]
      constructor
      · rintro h
        exact ⟨by omega, h.2⟩
      · rintro ⟨h1, h2⟩
        rcases Nat.lt_or_ge k n with g | g
        · exact ⟨g, h2⟩
        · obtain rfl : k = n := by omega
          exact absurd h2 hb
theorem gnd_tb {FO : Nat → Nat} {cl dk w r c : Nat} : (gnd FO cl dk w r).testBit c = true ↔ (lyNear FO cl (r : Int) w).testBit c = true ∧ (opn FO dk (r : Int) 15).testBit c = true := by
  unfold gnd
  by_cases h : lyNear FO cl (r : Int) w = 0
  · rw [if_pos h, h]
    exact ⟨fun q => absurd q (zero_tb c), fun q => absurd q.1 (zero_tb c)⟩
  · rw [if_neg h, and_tb]
theorem growR_tb {FO F : Nat → Nat} {cl dk w r i r' c : Nat} (hi : i < 4) (hr : r < 16) (hr' : r' < 16) : (growR FO cl dk w r F (i * 16 + r')).testBit c = true ↔ (F (i * 16 + r')).testBit c = true ∨ (cl.testBit i = true ∧ r' = r ∧ (gnd FO cl dk w r).testBit c = true) := by
  unfold growR
  by_cases h : gnd FO cl dk w r = 0
  · rw [if_pos h, h]
    exact ⟨Or.inl, fun q => q.elim id (fun q => absurd q.2.2 (zero_tb c))⟩
  · rw [if_neg h, inkJ_tb _ _ _ _ _ _ _ hr hr']
    exact ⟨fun q => q.elim Or.inl (fun q => Or.inr q.2), fun q => q.elim Or.inl (fun q => Or.inr ⟨hi, q⟩)⟩
theorem growP_tb0 {FO F : Nat → Nat} {cl dk w i r' c : Nat} (hi : i < 4) (hr' : r' < 16) : ∀ k, k ≤ 16 → ((foldN (growR FO cl dk w) 0 F k (i * 16 + r')).testBit c = true ↔ (F (i * 16 + r')).testBit c = true ∨ (cl.testBit i = true ∧ r' < k ∧ (gnd FO cl dk w r').testBit c = true))
  | 0, _ => ⟨Or.inl, fun q => q.elim id (fun q => absurd q.2.1 (by omega))⟩
  | k + 1, hk => by
    show (growR FO cl dk w (0 + k) (foldN (growR FO cl dk w) 0 F k) (i * 16 + r')).testBit c = true ↔ _
    rw [Nat.zero_add, growR_tb hi (by omega) hr', growP_tb0 hi hr' k (by omega)]
    constructor
    · rintro ((h | h) | h)
      · exact Or.inl h
      · exact Or.inr ⟨h.1, by omega, h.2.2⟩
      · exact Or.inr ⟨h.1, by omega, by rw [h.2.1]; exact h.2.2⟩
    · rintro (h | h)
      · exact Or.inl (Or.inl h)
      · rcases Nat.lt_or_ge r' k with g | g
        · exact Or.inl (Or.inr ⟨h.1, g, h.2.2⟩)
        · obtain rfl : r' = k := by omega
          exact Or.inr ⟨h.1, rfl, h.2.2⟩
theorem mkP_tb0 {FO F WT : Nat → Nat} {w i r' c : Nat} (hi : i < 4) (hr' : r' < 16) : ∀ k, ((foldN (fun d F => growP FO d (dkr WT d 16) w F) 1 F k (i * 16 + r')).testBit c = true ↔ (F (i * 16 + r')).testBit c = true ∨ ∃ d, (1 ≤ d ∧ d ≤ k) ∧ d.testBit i = true ∧ (gnd FO d (dkr WT d 16) w r').testBit c = true)
  | 0 => ⟨Or.inl, fun q => q.elim id (fun ⟨d, q, _⟩ => absurd q (by omega))⟩
  | k + 1 => by
    show (foldN (growR FO (1 + k) (dkr WT (1 + k) 16) w) 0 (foldN (fun d F => growP FO d (dkr WT d 16) w F) 1 F k) 16 (i * 16 + r')).testBit c = true ↔ _
    rw [growP_tb0 hi hr' 16 (Nat.le_refl _), mkP_tb0 hi hr' k]
    constructor
    · rintro ((h | ⟨d, h1, h2⟩) | h)
      · exact Or.inl h
      · exact Or.inr ⟨d, by omega, h2⟩
      · exact Or.inr ⟨1 + k, by omega, h.1, h.2.2⟩
    · rintro (h | ⟨d, h1, h2⟩)
      · exact Or.inl (Or.inl h)
      · rcases Nat.lt_or_ge k d with g | g
        · obtain rfl : d = 1 + k := by omega
          exact Or.inr ⟨h2.1, hr', h2.2⟩
        · exact Or.inl (Or.inr ⟨d, by omega, h2⟩)
def platQ (col : Nat → Nat → Nat) (fin : Nat → Nat → Bool) (WT : Nat → Nat) (w r c e : Nat) : Prop := (col r c).testBit e = true ∨ (col r c ≠ 0 ∧ fin r c = false ∧ ∃ r' c', (r' ≤ r + w ∧ r ≤ r' + w) ∧ (c' ≤ c + w ∧ c ≤ c' + w) ∧ fin r' c' = false ∧ lightP WT (col r' c') (col r c) ∧ (col r' c').testBit e = true)
theorem tb_ne0 {x e : Nat} (h : x.testBit e = true) : x ≠ 0 := ne0_tb.mpr ⟨e, h⟩
theorem light_irr (WT : Nat → Nat) (a : Nat) : ¬ lightP WT a a := by
  intro h
  omega
/-- the class's plates -/
theorem mkP_tb {CL FN WT : Nat → Nat} {X : PSt} {t : Nat → Nat → Int} (hR : Rep CL FN X t) (hC : ∀ k, CL k < 16) (h16 : ∀ r c, colS CL (t r c) ≠ 0 → r < 16 ∧ c < 16) {w i r c : Nat} (hi : i < 4) (hr : r < 16) : (mkP X.2.1 X.2.2.1 WT w (i * 16 + r)).testBit c = true ↔ platQ (fun r c => colS CL (t r c)) (fun r c => finS FN (t r c)) WT w r c i := by
  obtain ⟨-, h2, h3, -⟩ := hR
  have hl : (X.2.1 (i * 16 + r)).testBit c = true ↔ (colS CL (t r c)).testBit i = true := by
    rw [h2 i r c hi hr]
    exact ⟨fun q => q.2, fun q => ⟨(h16 r c (tb_ne0 q)).2, q⟩⟩
  unfold mkP platQ
  by_cases hw : w = 0
  · rw [if_pos hw, hl]
    constructor
    · exact Or.inl
    · rintro (q | ⟨-, -, r', c', q1, q2, -, q3, -⟩)
      · exact q
      · obtain rfl : r' = r := by omega
        obtain rfl : c' = c := by omega
        exact absurd q3 (light_irr WT _)
  · rw [if_neg hw, mkP_tb0 hi hr, hl]
    constructor
    · rintro (q | ⟨d, h4, h5, h6⟩)
      · exact Or.inl q
      · rw [gnd_tb, near_tb, opn_tb] at h6
        obtain ⟨⟨r', c', g1, g2, g3, g4⟩, k, g5, g6, g7⟩ := h6
        rw [h3 d r' c' (by omega) g1] at g4
        rw [lyW_n hr, h3 k r c (by omega) hr] at g7
        rw [dkr_tb] at g6
        refine Or.inr ⟨by show colS CL (t r c) ≠ 0; rw [g7.2.2.1]; exact g7.2.1, g7.2.2.2, r', c', g2, g3, g4.2.2.2, ?_, ?_⟩
        · show lightP WT (colS CL (t r' c')) (colS CL (t r c))
          rw [g4.2.2.1, g7.2.2.1]
          exact g6.2
        · show (colS CL (t r' c')).testBit i = true
          rw [g4.2.2.1]
          exact h5
    · rintro (q | ⟨q1, q2, r', c', q3, q4, q5, q6, q7⟩)
      · exact Or.inl q
      · have q8 := h16 r' c' (tb_ne0 q7)
        have q9 := h16 r c q1
        have b1 := colS_lt hC (t r' c')
        have b2 := colS_lt hC (t r c)
        have b3 : colS CL (t r' c') ≠ 0 := tb_ne0 q7
        refine Or.inr ⟨colS CL (t r' c'), by omega, q7, ?_⟩
        rw [gnd_tb, near_tb, opn_tb]
        refine ⟨⟨r', c', q8.1, q3, q4, ?_⟩, colS CL (t r c), ⟨Nat.pos_of_ne_zero q1, by omega⟩, ?_, ?_⟩
        · rw [h3 _ r' c' b1 q8.1]
          exact ⟨q8.2, b3, rfl, q5⟩
        · rw [dkr_tb]
          exact ⟨b2, q6⟩
        · rw [lyW_n hr, h3 _ r c b2 hr]
          exact ⟨q9.2, q1, rfl, q2⟩
/-! the model's plates -/
theorem plJ_tb {CA : Nat → Nat} {FA : Nat → Bool} {WT : Nat → Nat} {rw cm x : Nat} {i j0 : Int} {b e : Nat} : ∀ k, (plJ CA FA WT rw cm x i j0 b k).testBit e = true ↔ b.testBit e = true ∨ ∃ j : Nat, j < k ∧ celP rw cm i (j0 + (j : Int)) ∧ FA (16 * i + (j0 + (j : Int))).toNat = false ∧ lightP WT (CA (16 * i + (j0 + (j : Int))).toNat) (CA x) ∧ (CA (16 * i + (j0 + (j : Int))).toNat).testBit e = true
  | 0 => ⟨Or.inl, fun q => q.elim id (fun ⟨j, q, _⟩ => absurd q (by omega))⟩
  | k + 1 => by
    unfold plJ
    by_cases h : celP rw cm i (j0 + (k : Int)) ∧ FA (16 * i + (j0 + (k : Int))).toNat = false ∧ lightP WT (CA (16 * i + (j0 + (k : Int))).toNat) (CA x)
    · rw [if_pos h, or_tb, plJ_tb k]
      constructor
      · rintro ((q | ⟨j, q1, q2⟩) | q)
        · exact Or.inl q
        · exact Or.inr ⟨j, by omega, q2⟩
        · exact Or.inr ⟨k, by omega, h.1, h.2.1, h.2.2, q⟩
      · rintro (q | ⟨j, q1, q2⟩)
        · exact Or.inl (Or.inl q)
        · rcases Nat.lt_or_ge j k with g | g
          · exact Or.inl (Or.inr ⟨j, g, q2⟩)
          · obtain rfl : j = k := by omega
            exact Or.inr q2.2.2.2
    · rw [if_neg h, plJ_tb k]
      constructor
      · rintro (q | ⟨j, q1, q2⟩)
        · exact Or.inl q
        · exact Or.inr ⟨j, by omega, q2⟩
      · rintro (q | ⟨j, q1, q2⟩)
        · exact Or.inl q
        · rcases Nat.lt_or_ge j k with g | g
          · exact Or.inr ⟨j, g, q2⟩
          · obtain rfl : j = k := by omega
            exact absurd ⟨q2.1, q2.2.1, q2.2.2.1⟩ h
theorem plI_tb {CA : Nat → Nat} {FA : Nat → Bool} {WT : Nat → Nat} {rw cm w r c e : Nat} : ∀ k, (plI CA FA WT rw cm w r c k).testBit e = true ↔ (CA (16 * r + c)).testBit e = true ∨ ∃ a j : Nat, a < k ∧ j < 2 * w + 1 ∧ celP rw cm ((r : Int) - w + (a : Int)) ((c : Int) - w + (j : Int)) ∧ FA (16 * ((r : Int) - w + (a : Int)) + ((c : Int) - w + (j : Int))).toNat = false ∧ lightP WT (CA (16 * ((r : Int) - w + (a : Int)) + ((c : Int) - w + (j : Int))).toNat) (CA (16 * r + c)) ∧ (CA (16 * ((r : Int) - w + (a : Int)) + ((c : Int) - w + (j : Int))).toNat).testBit e = true
  | 0 => ⟨Or.inl, fun q => q.elim id (fun ⟨a, j, q, _⟩ => absurd q (by omega))⟩
  | k + 1 => by
    unfold plI
    rw [plJ_tb, plI_tb k]
    constructor
    · rintro ((q | ⟨a, j, q1, q2⟩) | ⟨j, q1, q2⟩)
      · exact Or.inl q
      · exact Or.inr ⟨a, j, by omega, q2⟩
      · exact Or.inr ⟨k, j, by omega, q1, q2⟩
    · rintro (q | ⟨a, j, q1, q2⟩)
      · exact Or.inl (Or.inl q)
      · rcases Nat.lt_or_ge a k with g | g
        · exact Or.inl (Or.inr ⟨a, j, g, q2⟩)
        · obtain rfl : a = k := by omega
          exact Or.inr ⟨j, q2⟩
theorem platM_tb {CA : Nat → Nat} {FA : Nat → Bool} {WT : Nat → Nat} {col : Nat → Nat → Nat} {fin : Nat → Nat → Bool} {rw cm w r c e : Nat} (hp : ∀ r c, r < rw → c < cm → CA (16 * r + c) = col r c ∧ FA (16 * r + c) = fin r c) (h0 : ∀ r c, col r c ≠ 0 → r < rw ∧ c < cm) (hr : r < rw) (hc : c < cm) : (platM CA FA WT rw cm w r c).testBit e = true ↔ platQ col fin WT w r c e := by
  have e0 := hp r c hr hc
  unfold platM platQ
  by_cases h : CA (16 * r + c) = 0 ∨ FA (16 * r + c) = true
  · rw [if_pos h, e0.1]
    refine ⟨Or.inl, fun q => q.elim id (fun q => ?_)⟩
    rcases h with h | h
    · exact absurd (e0.1.symm.trans h) q.1
    · exact absurd (h.symm.trans e0.2) (by rw [q.2.1]; decide)
  · rw [if_neg h, plI_tb, e0.1]
    rw [e0.1, e0.2] at h
    constructor
    · rintro (q | ⟨a, j, q1, q2, q3, q4, q5, q6⟩)
      · exact Or.inl q
      · obtain ⟨r', hr'⟩ : ∃ r' : Nat, (r : Int) - w + (a : Int) = (r' : Int) := ⟨((r : Int) - w + (a : Int)).toNat, by omega⟩
        obtain ⟨c', hc'⟩ : ∃ c' : Nat, (c : Int) - w + (j : Int) = (c' : Int) := ⟨((c : Int) - w + (j : Int)).toNat, by omega⟩
        rw [hr', hc'] at q3 q4 q5 q6
        rw [show (16 * (r' : Int) + (c' : Int)).toNat = 16 * r' + c' by omega] at q4 q5 q6
        have e1 := hp r' c' (by omega) (by omega)
        rw [e1.2] at q4
        rw [e1.1] at q5 q6
        refine Or.inr ⟨fun q => h (Or.inl q), ?_, r', c', by omega, by omega, q4, q5, q6⟩
        cases hf : fin r c
        · rfl
        · exact absurd (Or.inr hf) h
    · rintro (q | ⟨q1, q2, r', c', q3, q4, q5, q6, q7⟩)
      · exact Or.inl q
      · have g := h0 r' c' (tb_ne0 q7)
        have e1 := hp r' c' g.1 g.2
        refine Or.inr ⟨r' + w - r, c' + w - c, by omega, by omega, ?_⟩
        rw [show (r : Int) - w + ((r' + w - r : Nat) : Int) = (r' : Int) by omega, show (c : Int) - w + ((c' + w - c : Nat) : Int) = (c' : Int) by omega, show (16 * (r' : Int) + (c' : Int)).toNat = 16 * r' + c' by omega, e1.1, e1.2]
        exact ⟨⟨by omega, by omega⟩, q5, q6, q7⟩
