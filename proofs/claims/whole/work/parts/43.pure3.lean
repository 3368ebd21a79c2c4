/-! layers of a page's values -/
def LayV (F : Nat → Nat) (rw cm : Nat) (v : Nat → Nat → Nat) : Prop := ∀ i r c, i < 4 → r < 16 → ((F (i * 16 + r)).testBit c = true ↔ (r < rw ∧ c < cm) ∧ (v r c).testBit i = true)
theorem lyHas_tb {F : Nat → Nat} {rw cm : Nat} {v : Nat → Nat → Nat} (h : LayV F rw cm v) (hr : rw ≤ 16) (hc : cm ≤ 16) {i : Nat} (hi : i < 4) {z e : Int} : lyHas F i z e ↔ ∃ r c : Nat, (r < rw ∧ c < cm) ∧ z = (r : Int) ∧ e = (c : Int) ∧ (v r c).testBit i = true := by
  constructor
  · rintro ⟨h1, h2, h3⟩
    rw [bit_tb, lyW_tb] at h3
    obtain ⟨r, g1, g2, g3⟩ := h3
    rw [h i r _ hi g1] at g3
    exact ⟨r, e.toNat, g3.1, g2, by omega, g3.2⟩
  · rintro ⟨r, c, h1, rfl, rfl, h2⟩
    refine ⟨by omega, by omega, ?_⟩
    rw [bit_tb, lyW_tb]
    exact ⟨r, by omega, rfl, (h i r _ hi (by omega)).mpr ⟨h1, h2⟩⟩
theorem shw_tb {PA : Nat → Nat} {rw cm i : Nat} {z e : Int} : shwP PA rw cm i z e ↔ ∃ r c : Nat, (r < rw ∧ c < cm) ∧ z = (r : Int) ∧ e = (c : Int) ∧ (PA (16 * r + c)).testBit i = true := by
  constructor
  · rintro ⟨h1, h2⟩
    rw [bit_tb] at h2
    exact ⟨z.toNat, e.toNat, by omega, by omega, by omega, by rw [show 16 * z.toNat + e.toNat = (16 * z + e).toNat by omega]; exact h2⟩
  · rintro ⟨r, c, h1, rfl, rfl, h2⟩
    refine ⟨by omega, ?_⟩
    rw [bit_tb, show (16 * (r : Int) + (c : Int)).toNat = 16 * r + c by omega]
    exact h2
theorem has_shw {F PA : Nat → Nat} {rw cm : Nat} (h : LayV F rw cm (fun r c => PA (16 * r + c))) (hr : rw ≤ 16) (hc : cm ≤ 16) {i : Nat} (hi : i < 4) {z e : Int} : lyHas F i z e ↔ shwP PA rw cm i z e := by
  rw [lyHas_tb h hr hc hi, shw_tb]
theorem pC_tb {FP F : Nat → Nat} {i c : Nat} {fr dn : Int} {i' r' c' : Nat} (hr' : r' < 16) : ∀ k, k ≤ 16 → ((foldN (pC FP i c fr dn) 0 F k (i' * 16 + r')).testBit c' = true ↔ (F (i' * 16 + r')).testBit c' = true ∨ (i' = i ∧ r' < k ∧ c' = c ∧ lyHas FP i ((r' : Int) - dn) fr))
  | 0, _ => ⟨Or.inl, fun q => q.elim id (fun q => absurd q.2.1 (by omega))⟩
  | k + 1, hk => by
    show (pC FP i c fr dn (0 + k) (foldN (pC FP i c fr dn) 0 F k) (i' * 16 + r')).testBit c' = true ↔ _
    have ih := pC_tb (FP := FP) (F := F) (i := i) (c := c) (fr := fr) (dn := dn) (i' := i') (c' := c') hr' k (by omega)
    generalize foldN (pC FP i c fr dn) 0 F k = Y at ih ⊢
    unfold pC
    rw [Nat.zero_add]
    by_cases h : lyHas FP i ((k : Int) - dn) fr
    · rw [if_pos h, jn_tb _ _ _ _ _ _ _ (by omega) hr', ih, one_tb]
      constructor
      · rintro ((q | q) | q)
        · exact Or.inl q
        · exact Or.inr ⟨q.1, by omega, q.2.2⟩
        · exact Or.inr ⟨q.1, by omega, q.2.2, by rw [q.2.1]; exact h⟩
      · rintro (q | q)
        · exact Or.inl (Or.inl q)
        · rcases Nat.lt_or_ge r' k with g | g
          · exact Or.inl (Or.inr ⟨q.1, g, q.2.2⟩)
          · exact Or.inr ⟨q.1, by omega, q.2.2.1⟩
    · rw [if_neg h, ih]
      constructor
      · rintro (q | q)
        · exact Or.inl q
        · exact Or.inr ⟨q.1, by omega, q.2.2⟩
      · rintro (q | q)
        · exact Or.inl q
        · rcases Nat.lt_or_ge r' k with g | g
          · exact Or.inr ⟨q.1, g, q.2.2⟩
          · obtain rfl : r' = k := by omega
            exact absurd q.2.2.2 h
theorem pCol_tb {FP F : Nat → Nat} {AC DN : Nat → Int} {cr : Int} {rw i i' r' c' : Nat} (hrw : rw ≤ 16) (hr' : r' < 16) : ∀ k, ((foldN (pCol FP AC DN cr rw i) 0 F k (i' * 16 + r')).testBit c' = true ↔ (F (i' * 16 + r')).testBit c' = true ∨ (i' = i ∧ r' < rw ∧ c' < k ∧ lyHas FP i ((r' : Int) - DN i) ((c' : Int) - offC AC cr i c')))
  | 0 => ⟨Or.inl, fun q => q.elim id (fun q => absurd q.2.2.1 (by omega))⟩
  | k + 1 => by
    show (foldN (pC FP i (0 + k) (((0 + k : Nat) : Int) - offC AC cr i (0 + k)) (DN i)) 0 (foldN (pCol FP AC DN cr rw i) 0 F k) rw (i' * 16 + r')).testBit c' = true ↔ _
    rw [Nat.zero_add, pC_tb hr' rw hrw, pCol_tb hrw hr' k]
    constructor
    · rintro ((q | q) | q)
      · exact Or.inl q
      · exact Or.inr ⟨q.1, q.2.1, by omega, q.2.2.2⟩
      · exact Or.inr ⟨q.1, q.2.1, by omega, by rw [q.2.2.1]; exact q.2.2.2⟩
    · rintro (q | q)
      · exact Or.inl (Or.inl q)
      · rcases Nat.lt_or_ge c' k with g | g
        · exact Or.inl (Or.inr ⟨q.1, q.2.1, g, q.2.2.2⟩)
        · obtain rfl : c' = k := by omega
          exact Or.inr ⟨q.1, q.2.1, rfl, q.2.2.2⟩
theorem plP_tb0 {FP F : Nat → Nat} {AC DN : Nat → Int} {cr : Int} {rw cm i' r' c' : Nat} (hrw : rw ≤ 16) (hr' : r' < 16) : ∀ k, ((foldN (fun i F => foldN (pCol FP AC DN cr rw i) 0 F cm) 0 F k (i' * 16 + r')).testBit c' = true ↔ (F (i' * 16 + r')).testBit c' = true ∨ (i' < k ∧ r' < rw ∧ c' < cm ∧ lyHas FP i' ((r' : Int) - DN i') ((c' : Int) - offC AC cr i' c')))
  | 0 => ⟨Or.inl, fun q => q.elim id (fun q => absurd q.1 (by omega))⟩
  | k + 1 => by
    show (foldN (pCol FP AC DN cr rw (0 + k)) 0 (foldN (fun i F => foldN (pCol FP AC DN cr rw i) 0 F cm) 0 F k) cm (i' * 16 + r')).testBit c' = true ↔ _
    rw [Nat.zero_add, pCol_tb hrw hr' cm, plP_tb0 hrw hr' k]
    constructor
    · rintro ((q | q) | q)
      · exact Or.inl q
      · exact Or.inr ⟨by omega, q.2⟩
      · exact Or.inr ⟨by omega, q.2.1, q.2.2.1, by rw [q.1]; exact q.2.2.2⟩
    · rintro (q | q)
      · exact Or.inl (Or.inl q)
      · rcases Nat.lt_or_ge i' k with g | g
        · exact Or.inl (Or.inr ⟨g, q.2⟩)
        · obtain rfl : i' = k := by omega
          exact Or.inr ⟨rfl, q.2⟩
theorem shM_tb {PA : Nat → Nat} {DR DC : Nat → Int} {cr : Int} {rw cm r c e : Nat} : ∀ n, (shM PA DR DC cr rw cm r c n).testBit e = true ↔ e < n ∧ shwP PA rw cm e ((r : Int) - DR e) ((c : Int) - offC DC cr e c)
  | 0 => ⟨fun q => absurd q (zero_tb e), fun q => absurd q.1 (by omega)⟩
  | n + 1 => by
    unfold shM
    by_cases h : shwP PA rw cm n ((r : Int) - DR n) ((c : Int) - offC DC cr n c)
    · rw [if_pos h, or_tb, shM_tb n, one_tb]
      constructor
      · rintro (q | rfl)
        · exact ⟨by omega, q.2⟩
        · exact ⟨by omega, h⟩
      · rintro ⟨q1, q2⟩
        rcases Nat.lt_or_ge e n with g | g
        · exact Or.inl ⟨g, q2⟩
        · exact Or.inr (by omega)
    · rw [if_neg h, shM_tb n]
      constructor
      · intro q
        exact ⟨by omega, q.2⟩
      · rintro ⟨q1, q2⟩
        rcases Nat.lt_or_ge e n with g | g
        · exact ⟨g, q2⟩
        · obtain rfl : e = n := by omega
          exact absurd q2 h
/-- what the proof shows -/
theorem plP_lay {FP PA : Nat → Nat} {AC DN : Nat → Int} {cr : Int} {rw cm : Nat} (h : LayV FP rw cm (fun r c => PA (16 * r + c))) (hr : rw ≤ 16) (hc : cm ≤ 16) : LayV (plP FP AC DN cr rw cm) rw cm (fun r c => shM PA DN AC cr rw cm r c 4) := by
  intro i r c hi hr16
  unfold plP
  rw [plP_tb0 hr hr16 4, shM_tb, has_shw h hr hc hi]
  constructor
  · rintro (q | q)
    · exact absurd q (zero_tb c)
    · exact ⟨⟨q.2.1, q.2.2.1⟩, q.1, q.2.2.2⟩
  · rintro ⟨q1, q2, q3⟩
    exact Or.inr ⟨q2, q1.1, q1.2, q3⟩
/-! what is asked of a cell -/
theorem lyThru_tb {F : Nat → Nat} {z c : Int} {e : Nat} : ∀ n, (lyThru F z c n).testBit e = true ↔ e < n ∧ lyHas F e z c
  | 0 => ⟨fun q => absurd q (zero_tb e), fun q => absurd q.1 (by omega)⟩
  | n + 1 => by
    unfold lyThru
    by_cases h : lyHas F n z c
    · rw [if_pos h, or_tb, lyThru_tb n, one_tb]
      constructor
      · rintro (q | rfl)
        · exact ⟨by omega, q.2⟩
        · exact ⟨by omega, h⟩
      · rintro ⟨q1, q2⟩
        rcases Nat.lt_or_ge e n with g | g
        · exact Or.inl ⟨g, q2⟩
        · exact Or.inr (by omega)
    · rw [if_neg h, lyThru_tb n]
      constructor
      · intro q
        exact ⟨by omega, q.2⟩
      · rintro ⟨q1, q2⟩
        rcases Nat.lt_or_ge e n with g | g
        · exact ⟨g, q2⟩
        · obtain rfl : e = n := by omega
          exact absurd q2 h
theorem thru_eq {F : Nat → Nat} {rw cm : Nat} {v : Nat → Nat → Nat} (h : LayV F rw cm v) (hr : rw ≤ 16) (hc : cm ≤ 16) (hv : ∀ r c, v r c < 16) {r c : Nat} (h1 : r < rw) (h2 : c < cm) : lyThru F (r : Int) (c : Int) 4 = v r c := by
  apply ext_tb
  intro e
  rw [lyThru_tb]
  constructor
  · rintro ⟨q1, q2⟩
    rw [lyHas_tb h hr hc q1] at q2
    obtain ⟨r', c', g1, g2, g3, g4⟩ := q2
    obtain rfl : r = r' := by omega
    obtain rfl : c = c' := by omega
    exact g4
  · intro q
    have he : e < 4 := by
      rcases Nat.lt_or_ge e 4 with g | g
      · exact g
      · exact absurd q (big_tb (n := 4) (hv r c) g)
    exact ⟨he, (lyHas_tb h hr hc he).mpr ⟨r, c, ⟨h1, h2⟩, rfl, rfl, q⟩⟩
theorem thru_off {F : Nat → Nat} {rw cm : Nat} {v : Nat → Nat → Nat} (h : LayV F rw cm v) (hr : rw ≤ 16) (hc : cm ≤ 16) {r c : Nat} (h1 : ¬ (r < rw ∧ c < cm)) : lyThru F (r : Int) (c : Int) 4 = 0 := by
  apply ext_tb
  intro e
  rw [lyThru_tb]
  constructor
  · rintro ⟨q1, q2⟩
    rw [lyHas_tb h hr hc q1] at q2
    obtain ⟨r', c', g1, g2, g3, g4⟩ := q2
    exact absurd ⟨by omega, by omega⟩ h1
  · intro q
    exact absurd q (zero_tb e)
theorem lyAny_tb {F : Nat → Nat} {left z : Int} {c : Nat} : ∀ n, (lyAny F left z n).testBit c = true ↔ ∃ i : Nat, i < n ∧ (i : Int) ≠ left ∧ (lyW F i z).testBit c = true
  | 0 => ⟨fun q => absurd q (zero_tb c), fun ⟨i, q, _⟩ => absurd q (by omega)⟩
  | n + 1 => by
    unfold lyAny
    by_cases h : (n : Int) = left
    · rw [if_pos h, lyAny_tb n]
      constructor
      · rintro ⟨i, q1, q2⟩
        exact ⟨i, by omega, q2⟩
      · rintro ⟨i, q1, q2, q3⟩
        exact ⟨i, by omega, q2, q3⟩
    · rw [if_neg h, or_tb, lyAny_tb n]
      constructor
      · rintro (⟨i, q1, q2⟩ | q)
        · exact ⟨i, by omega, q2⟩
        · exact ⟨n, by omega, h, q⟩
      · rintro ⟨i, q1, q2, q3⟩
        rcases Nat.lt_or_ge i n with g | g
        · exact Or.inl ⟨i, g, q2, q3⟩
        · obtain rfl : i = n := by omega
          exact Or.inr q3
theorem any_lay {F : Nat → Nat} {rw cm : Nat} {v : Nat → Nat → Nat} (h : LayV F rw cm v) {left : Int} {r c : Nat} (hr : r < 16) : (lyAny F left (r : Int) 4).testBit c = true ↔ (r < rw ∧ c < cm) ∧ ∃ i : Nat, i < 4 ∧ (i : Int) ≠ left ∧ (v r c).testBit i = true := by
  rw [lyAny_tb]
  constructor
  · rintro ⟨i, q1, q2, q3⟩
    rw [lyW_n hr, h i r c q1 hr] at q3
    exact ⟨q3.1, i, q1, q2, q3.2⟩
  · rintro ⟨q0, i, q1, q2, q3⟩
    exact ⟨i, q1, q2, by rw [lyW_n hr, h i r c q1 hr]; exact ⟨q0, q3⟩⟩
theorem tb4 {x e : Nat} (h : x < 16) (q : x.testBit e = true) : e < 4 := by
  rcases Nat.lt_or_ge e 4 with g | g
  · exact g
  · exact absurd q (big_tb (n := 4) h g)
theorem any_ne0 {F : Nat → Nat} {rw cm : Nat} {v : Nat → Nat → Nat} (h : LayV F rw cm v) (hv : ∀ r c, v r c < 16) {r c : Nat} (hr : r < 16) : (lyAny F (-1) (r : Int) 4).testBit c = true ↔ (r < rw ∧ c < cm) ∧ v r c ≠ 0 := by
  rw [any_lay h hr, ne0_tb]
  constructor
  · rintro ⟨q0, i, q1, q2, q3⟩
    exact ⟨q0, i, q3⟩
  · rintro ⟨q0, i, q1⟩
    exact ⟨q0, i, tb4 (hv r c) q1, by omega, q1⟩
theorem bar_tb {FI FS : Nat → Nat} {rw cm : Nat} {v s : Nat → Nat → Nat} (h1 : LayV FI rw cm v) (h2 : LayV FS rw cm s) (hv : ∀ r c, v r c < 16) (hs : ∀ r c, s r c < 16) (hc16 : cm ≤ 16) {r c : Nat} (hr : r < 16) : (barW FI FS (r : Int)).testBit c = true ↔ (r < rw ∧ c < cm) ∧ (v r c ≠ 0 ∧ s r c = 0) := by
  unfold barW
  rw [and_tb, any_ne0 h1 hv hr]
  constructor
  · rintro ⟨⟨q1, q2⟩, q3⟩
    rw [not_tb (by omega), any_ne0 h2 hs hr] at q3
    refine ⟨q1, q2, ?_⟩
    rcases Nat.eq_zero_or_pos (s r c) with g | g
    · exact g
    · exact absurd ⟨q1, by omega⟩ q3
  · rintro ⟨q1, q2, q3⟩
    refine ⟨⟨q1, q2⟩, ?_⟩
    rw [not_tb (by omega), any_ne0 h2 hs hr]
    exact fun q => q.2 q3
theorem wrg_tb0 {FI FS : Nat → Nat} {z : Int} {c : Nat} : ∀ n, (wrg FI FS z n).testBit c = true ↔ ∃ i, i < n ∧ ¬ ((lyW FI i z).testBit c = true ↔ (lyW FS i z).testBit c = true)
  | 0 => ⟨fun q => absurd q (zero_tb c), fun ⟨i, q, _⟩ => absurd q (by omega)⟩
  | n + 1 => by
    unfold wrg
    rw [or_tb, wrg_tb0 n, xor_tb]
    constructor
    · rintro (⟨i, q1, q2⟩ | q)
      · exact ⟨i, by omega, q2⟩
      · exact ⟨n, by omega, q⟩
    · rintro ⟨i, q1, q2⟩
      rcases Nat.lt_or_ge i n with g | g
      · exact Or.inl ⟨i, g, q2⟩
      · obtain rfl : i = n := by omega
        exact Or.inr q2
theorem wrg_tb {FI FS : Nat → Nat} {rw cm : Nat} {v s : Nat → Nat → Nat} (h1 : LayV FI rw cm v) (h2 : LayV FS rw cm s) (hv : ∀ r c, v r c < 16) (hs : ∀ r c, s r c < 16) {r c : Nat} (hr : r < 16) : (wrg FI FS (r : Int) 4).testBit c = true ↔ (r < rw ∧ c < cm) ∧ s r c ≠ v r c := by
  rw [wrg_tb0]
  constructor
  · rintro ⟨i, q1, q2⟩
    rw [lyW_n hr, lyW_n hr, h1 i r c q1 hr, h2 i r c q1 hr] at q2
    by_cases g : r < rw ∧ c < cm
    · exact ⟨g, fun q => q2 (by rw [q])⟩
    · exact absurd ⟨fun q => absurd q.1 g, fun q => absurd q.1 g⟩ q2
  · rintro ⟨q1, q2⟩
    apply Classical.byContradiction
    intro q3
    apply q2
    apply ext_tb
    intro e
    apply Classical.byContradiction
    intro q4
    have he : e < 4 := by
      rcases Nat.lt_or_ge e 4 with g | g
      · exact g
      · exact absurd ⟨fun q => absurd q (big_tb (n := 4) (hs r c) g), fun q => absurd q (big_tb (n := 4) (hv r c) g)⟩ q4
    apply q3
    refine ⟨e, he, ?_⟩
    rw [lyW_n hr, lyW_n hr, h1 e r c he hr, h2 e r c he hr]
    intro q5
    exact q4 ⟨fun q => (q5.mpr ⟨q1, q⟩).2, fun q => (q5.mp ⟨q1, q⟩).2⟩
theorem plM_tb {PA : Nat → Nat} {i r c : Nat} : ∀ n, (plM PA i r n).testBit c = true ↔ c < n ∧ (PA (16 * r + c)).testBit i = true
  | 0 => ⟨fun q => absurd q (zero_tb c), fun q => absurd q.1 (by omega)⟩
  | n + 1 => by
    unfold plM
    rw [or_tb, plM_tb n, bit_tb0]
    by_cases h : (PA (16 * r + n)).testBit i = true
    · rw [if_pos h, one_tb]
      constructor
      · rintro (q | rfl)
        · exact ⟨by omega, q.2⟩
        · exact ⟨by omega, h⟩
      · rintro ⟨q1, q2⟩
        rcases Nat.lt_or_ge c n with g | g
        · exact Or.inl ⟨g, q2⟩
        · exact Or.inr (by omega)
    · rw [if_neg h, Nat.zero_shiftLeft]
      constructor
      · rintro (q | q)
        · exact ⟨by omega, q.2⟩
        · exact absurd q (zero_tb c)
      · rintro ⟨q1, q2⟩
        rcases Nat.lt_or_ge c n with g | g
        · exact Or.inl ⟨g, q2⟩
        · obtain rfl : c = n := by omega
          exact absurd q2 h
theorem plate_eq {FP PA : Nat → Nat} {rw cm : Nat} (h : LayV FP rw cm (fun r c => PA (16 * r + c))) (hr : rw ≤ 16) {i r : Nat} (hi : i < 4) (h1 : r < rw) : lyW FP i (r : Int) = plM PA i r cm := by
  apply ext_tb
  intro c
  rw [lyW_n (by omega), h i r c hi (by omega), plM_tb]
  exact ⟨fun q => ⟨q.1.2, q.2⟩, fun q => ⟨⟨h1, q.1⟩, q.2⟩⟩
