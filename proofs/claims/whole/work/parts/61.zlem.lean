theorem dead_of {SH : Nat → Option Nat} {n : Int} (hf : (if 0 ≤ n ∧ n ≤ 29 then SH n.toNat else none) = none) : ¬ (0 ≤ n ∧ n ≤ 29) ∨ SH n.toNat = none := by
  by_cases h : 0 ≤ n ∧ n ≤ 29
  · rw [if_pos h] at hf
    exact Or.inr hf
  · exact Or.inl h
theorem live_of {SH : Nat → Option Nat} {n : Int} {y : Nat} (hf : (if 0 ≤ n ∧ n ≤ 29 then SH n.toNat else none) = some y) : ∃ m : Nat, n = (m : Int) ∧ m < 30 ∧ SH m = some y := by
  by_cases h : 0 ≤ n ∧ n ≤ 29
  · rw [if_pos h] at hf
    exact ⟨n.toNat, by omega, by omega, hf⟩
  · rw [if_neg h] at hf
    cases hf
theorem fnI {k : Nat} (h : k ≤ 1) : b2i (decide (k = 1)) = (k : Int) := by
  rcases (show k = 0 ∨ k = 1 by omega) with rfl | rfl <;> rfl
