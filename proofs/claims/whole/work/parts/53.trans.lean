/-! how the sheet's relation moves -/
def shR (LP : List Nat) (f : Nat → va_E) (SH : Nat → Option Nat) (OR : Nat → Nat) (SV : Nat → ShT) (ly md : Nat) : Prop := shOK LP f SH SV ∧ (∀ n, n < 30 → (SH n ≠ none ↔ ∃ k, k < ly ∧ OR k = n)) ∧ (∀ i j, i < ly → j < ly → OR i = OR j → i = j) ∧ (∀ k, k < ly → OR k < md) ∧ ly ≤ md ∧ md ≤ 30
section SHR
variable {LP : List Nat} {f : Nat → va_E} {SH : Nat → Option Nat} {OR : Nat → Nat} {SV SV' : Nat → ShT} {ly md : Nat}
theorem shR_pool {LP' : List Nat} {f' : Nat → va_E} (h : shR LP f SH OR SV ly md) (hp : ∀ y, y ∈ LP → y ∈ LP' ∧ f' y = f y) : shR LP' f' SH OR SV ly md := ⟨fun i y hi hy => by
  obtain ⟨h1, h2, h3⟩ := h.1 i y hi hy
  exact ⟨(hp y h1).1, (hp y h1).2.trans h2, h3⟩, h.2⟩
theorem pool_push {q : Nat} {e : va_E} (hq : q ∉ LP) : ∀ y, y ∈ LP → y ∈ LP ++ [q] ∧ va_up f q e y = f y := fun y hy => ⟨List.mem_append_left _ hy, up_ne f e (fun h => hq (h ▸ hy))⟩
theorem plc_spec (OR : Nat → Nat) (ly : Nat) (n : Int) : ∀ j, j ≤ ly → (plc OR ly n j = -1 ∧ ∀ q, ly - j ≤ q → q < ly → (OR q : Int) ≠ n) ∨ (∃ q, ly - j ≤ q ∧ q < ly ∧ (OR q : Int) = n ∧ plc OR ly n j = (q : Int))
  | 0, _ => Or.inl ⟨rfl, fun q h1 h2 => absurd h2 (by omega)⟩
  | j + 1, hj => by
    unfold plc
    by_cases h : (OR (ly - (j + 1)) : Int) = n
    · rw [if_pos h]
      exact Or.inr ⟨ly - (j + 1), Nat.le_refl _, by omega, h, rfl⟩
    · rw [if_neg h]
      rcases plc_spec OR ly n j (by omega) with ⟨h1, h2⟩ | ⟨q, h1, h2, h3, h4⟩
      · refine Or.inl ⟨h1, fun q g1 g2 => ?_⟩
        by_cases e : q = ly - (j + 1)
        · rw [e]
          exact h
        · exact h2 q (by omega) g2
      · exact Or.inr ⟨q, by omega, h2, h3, h4⟩
theorem plc_dead (h : shR LP f SH OR SV ly md) {n : Int} (hn : ¬ (0 ≤ n ∧ n ≤ 29) ∨ SH n.toNat = none) (hO : ∀ k, OR k < 30) : plc OR ly n ly = -1 := by
  rcases plc_spec OR ly n ly (Nat.le_refl _) with ⟨h1, -⟩ | ⟨q, -, h2, h3, -⟩
  · exact h1
  · have := hO q
    rcases hn with hn | hn
    · omega
    · exact absurd hn ((h.2.1 n.toNat (by omega)).mpr ⟨q, h2, by omega⟩)
theorem plc_live (h : shR LP f SH OR SV ly md) {n y : Nat} (hn : n < 30) (hy : SH n = some y) : ∃ k, k < ly ∧ OR k = n ∧ plc OR ly (n : Int) ly = (k : Int) := by
  rcases plc_spec OR ly (n : Int) ly (Nat.le_refl _) with ⟨-, h1⟩ | ⟨q, -, h2, h3, h4⟩
  · obtain ⟨k, g1, g2⟩ := (h.2.1 n hn).mp (by rw [hy]; exact fun q => by cases q)
    exact absurd (by rw [g2]) (h1 k (by omega) g1)
  · exact ⟨q, h2, by omega, h4⟩
theorem shR_add {q : Nat} {v : ShT} (h : shR LP f SH OR SV ly md) (hm : md < 30) (hq : q ∉ LP) (hv : shV v) (e1 : SV' md = v) (e2 : ∀ n, n ≠ md → SV' n = SV n) : shR (LP ++ [q]) (va_up f q (shE v)) (va_up SH md (some q)) (va_up OR ly md) SV' (ly + 1) (md + 1) := by
  obtain ⟨h1, h2, h3, h4, h5, h6⟩ := h
  refine ⟨fun i y hi hy => ?_, fun n hn => ?_, fun i j hi hj he => ?_, fun k hk => ?_, by omega, by omega⟩
  · by_cases e : i = md
    · subst e
      rw [up_at] at hy
      cases hy
      rw [e1, up_at]
      exact ⟨List.mem_append_right _ List.mem_cons_self, rfl, hv⟩
    · rw [up_ne _ _ e] at hy
      obtain ⟨g1, g2, g3⟩ := h1 i y hi hy
      rw [e2 i e]
      exact ⟨List.mem_append_left _ g1, (pool_push (f := f) (e := shE v) hq y g1).2.trans g2, g3⟩
  · by_cases e : n = md
    · subst e
      rw [up_at]
      exact ⟨fun _ => ⟨ly, by omega, up_at _ _ _⟩, fun _ => fun g => by cases g⟩
    · rw [up_ne _ _ e, h2 n hn]
      constructor
      · rintro ⟨k, g1, g2⟩
        exact ⟨k, by omega, by rw [up_ne _ _ (by omega)]; exact g2⟩
      · rintro ⟨k, g1, g2⟩
        by_cases e3 : k = ly
        · rw [e3, up_at] at g2
          exact absurd g2.symm e
        · rw [up_ne _ _ e3] at g2
          exact ⟨k, by omega, g2⟩
  · by_cases ei : i = ly
    · by_cases ej : j = ly
      · omega
      · rw [ei, up_at, up_ne _ _ ej] at he
        have := h4 j (by omega)
        omega
    · rw [up_ne _ _ ei] at he
      by_cases ej : j = ly
      · rw [ej, up_at] at he
        have := h4 i (by omega)
        omega
      · rw [up_ne _ _ ej] at he
        exact h3 i j (by omega) (by omega) he
  · by_cases e : k = ly
    · rw [e, up_at]
      omega
    · rw [up_ne _ _ e]
      have := h4 k (by omega)
      omega
theorem shR_set {n q y : Nat} {v : ShT} (h : shR LP f SH OR SV ly md) (hn : n < 30) (hy : SH n = some y) (hq : q ∉ LP) (hv : shV v) (e1 : SV' n = v) (e2 : ∀ k, k ≠ n → SV' k = SV k) : shR (LP ++ [q]) (va_up f q (shE v)) (va_up SH n (some q)) OR SV' ly md := by
  obtain ⟨h1, h2, h3⟩ := h
  refine ⟨fun i y' hi hy' => ?_, fun k hk => ?_, h3⟩
  · by_cases e : i = n
    · subst e
      rw [up_at] at hy'
      cases hy'
      rw [e1, up_at]
      exact ⟨List.mem_append_right _ List.mem_cons_self, rfl, hv⟩
    · rw [up_ne _ _ e] at hy'
      obtain ⟨g1, g2, g3⟩ := h1 i y' hi hy'
      rw [e2 i e]
      exact ⟨List.mem_append_left _ g1, (pool_push (f := f) (e := shE v) hq y' g1).2.trans g2, g3⟩
  · rw [← h2 k hk]
    by_cases e : k = n
    · rw [e, up_at, hy]
      exact ⟨fun _ g => (by cases g), fun _ g => (by cases g)⟩
    · rw [up_ne _ _ e]
theorem shR_take {n k : Nat} (h : shR LP f SH OR SV ly md) (hn : n < 30) (hk : k < ly) (ek : OR k = n) : shR LP f (va_up SH n none) (shD OR k ly) SV (ly - 1) md := by
  obtain ⟨h1, h2, h3, h4, h5, h6⟩ := h
  have s1 : ∀ j, j < ly - 1 → ∃ i, i < ly ∧ i ≠ k ∧ shD OR k ly j = OR i ∧ (i = if j < k then j else j + 1) := by
    intro j hj
    unfold shD
    by_cases g : j < k
    · rw [if_neg (by omega)]
      exact ⟨j, by omega, by omega, rfl, by rw [if_pos g]⟩
    · rw [if_pos (by omega)]
      exact ⟨j + 1, by omega, by omega, rfl, by rw [if_neg g]⟩
  refine ⟨fun i y hi hy => ?_, fun m hm => ?_, fun i j hi hj he => ?_, fun j hj => ?_, by omega, h6⟩
  · by_cases e : i = n
    · rw [e, up_at] at hy
      cases hy
    · rw [up_ne _ _ e] at hy
      exact h1 i y hi hy
  · by_cases e : m = n
    · rw [e, up_at]
      refine ⟨fun g => absurd rfl g, ?_⟩
      rintro ⟨j, g1, g2⟩
      obtain ⟨i, b1, b2, b3, -⟩ := s1 j g1
      exact absurd (h3 i k b1 hk (by rw [← b3, g2, ek])) b2
    · rw [up_ne _ _ e, h2 m hm]
      constructor
      · rintro ⟨i, g1, g2⟩
        have hik : i ≠ k := fun q => e (by rw [← g2, q, ek])
        by_cases g : i < k
        · refine ⟨i, by omega, ?_⟩
          unfold shD
          rw [if_neg (by omega)]
          exact g2
        · refine ⟨i - 1, by omega, ?_⟩
          unfold shD
          rw [if_pos (by omega), show i - 1 + 1 = i by omega]
          exact g2
      · rintro ⟨j, g1, g2⟩
        obtain ⟨i, b1, b2, b3, -⟩ := s1 j g1
        exact ⟨i, b1, by rw [← b3]; exact g2⟩
  · obtain ⟨i', b1, b2, b3, b4⟩ := s1 i hi
    obtain ⟨j', c1, c2, c3, c4⟩ := s1 j hj
    have := h3 i' j' b1 c1 (by rw [← b3, ← c3]; exact he)
    rw [b4, c4] at this
    split at this <;> split at this <;> omega
  · obtain ⟨i, b1, b2, b3, -⟩ := s1 j hj
    rw [b3]
    exact h4 i b1
theorem shR_swap {n k j : Nat} (h : shR LP f SH OR SV ly md) (hk : k < ly) (hj : j < ly) (hkj : k ≠ j) (ek : OR k = n) : shR LP f SH (va_up (va_up OR k (OR j)) j n) SV ly md := by
  obtain ⟨h1, h2, h3, h4, h5⟩ := h
  have v : ∀ i, va_up (va_up OR k (OR j)) j n i = OR (if i = j then k else if i = k then j else i) := by
    intro i
    by_cases e1 : i = j
    · rw [if_pos e1, e1, up_at, ek]
    · rw [if_neg e1, up_ne _ _ e1]
      by_cases e2 : i = k
      · rw [if_pos e2, e2, up_at]
      · rw [if_neg e2, up_ne _ _ e2]
  have b : ∀ i, i < ly → (if i = j then k else if i = k then j else i) < ly := by
    intro i hi
    split
    · exact hk
    · split
      · exact hj
      · exact hi
  refine ⟨h1, fun m hm => ?_, fun i i' hi hi' he => ?_, fun i hi => ?_, h5⟩
  · rw [h2 m hm]
    constructor
    · rintro ⟨i, g1, g2⟩
      refine ⟨(if i = j then k else if i = k then j else i), b i g1, ?_⟩
      rw [v]
      by_cases e1 : i = j
      · rw [if_pos e1]
        by_cases e3 : k = j
        · omega
        · rw [if_neg e3, if_pos rfl, ← e1]
          exact g2
      · rw [if_neg e1]
        by_cases e2 : i = k
        · rw [if_pos e2, if_pos rfl, ← e2]
          exact g2
        · rw [if_neg e2, if_neg e1, if_neg e2]
          exact g2
    · rintro ⟨i, g1, g2⟩
      rw [v] at g2
      exact ⟨_, b i g1, g2⟩
  · rw [v, v] at he
    have := h3 _ _ (b i hi) (b i' hi') he
    split at this <;> split at this <;> (try split at this) <;> (try split at this) <;> omega
  · rw [v]
    exact h4 _ (b i hi)
theorem shR_cong {OR' : Nat → Nat} (h : shR LP f SH OR SV ly md) (e1 : ∀ k, k < 30 → OR' k = OR k) (e2 : ∀ k, k < 30 → SV' k = SV k) : shR LP f SH OR' SV' ly md := by
  obtain ⟨h1, h2, h3, h4, h5, h6⟩ := h
  refine ⟨fun i y hi hy => ?_, fun n hn => ?_, fun i j hi hj he => ?_, fun k hk => ?_, h5, h6⟩
  · rw [e2 i hi]
    exact h1 i y hi hy
  · rw [h2 n hn]
    constructor
    · rintro ⟨k, g1, g2⟩
      exact ⟨k, g1, by rw [e1 k (by omega)]; exact g2⟩
    · rintro ⟨k, g1, g2⟩
      exact ⟨k, g1, by rw [← e1 k (by omega)]; exact g2⟩
  · rw [e1 i (by omega), e1 j (by omega)] at he
    exact h3 i j hi hj he
  · rw [e1 k (by omega)]
    exact h4 k hk
theorem shR_some (h : shR LP f SH OR SV ly md) (hO : ∀ k, OR k < 30) : ∀ k, k < ly → SH (OR k) ≠ none := fun k hk => (h.2.1 (OR k) (hO k)).mpr ⟨k, hk, rfl⟩
end SHR
/-! what a call leaves alone beyond the present -/
theorem sl_up {α : Type} {F : Nat → α} {j b : Nat} {v : α} (h : j < b) : ∀ q, b ≤ q → va_up F j v q = F q := fun q hq => up_ne F v (by omega)
theorem sl_shD {OR : Nat → Nat} {k ly : Nat} (h : ly ≤ 30) : ∀ q, 30 ≤ q → shD OR k ly q = OR q := fun q hq => by
  unfold shD
  rw [if_neg (by omega)]
theorem sl_zr {F : Nat → Int} : ∀ q, 4 ≤ q → zr4 F 4 q = F q := fun q hq => by
  unfold zr4
  rw [if_neg (by omega)]
theorem shB_all {α : Type} {P : α → Prop} {F : Nat → α} {bf bt k : Nat} (h : ∀ q, P (F q)) : ∀ q, P (shB F bf bt k q) := fun q => by
  unfold shB
  split
  · exact h _
  · exact h _
theorem shB_off {α : Type} {F : Nat → α} {bf bt k q : Nat} (h : q < bt ∨ bt + k ≤ q) : shB F bf bt k q = F q := by
  unfold shB
  rw [if_neg (by omega)]
theorem shB_in {α : Type} {F : Nat → α} {bf bt k i q : Nat} (h : i < k) (hq : q = bt + i) : shB F bf bt k q = F (bf + i) := by
  unfold shB
  rw [if_pos (by omega), show q - bt = i by omega]
theorem shD_all {P : Nat → Prop} {OR : Nat → Nat} {k ly : Nat} (h : ∀ q, P (OR q)) : ∀ q, P (shD OR k ly q) := fun q => by
  unfold shD
  split
  · exact h _
  · exact h _
theorem zr_all {P : Int → Prop} {F : Nat → Int} (h0 : P 0) (h : ∀ q, P (F q)) : ∀ q, P (zr4 F 4 q) := fun q => by
  unfold zr4
  split
  · exact h0
  · exact h _
