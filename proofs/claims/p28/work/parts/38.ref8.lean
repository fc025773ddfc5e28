theorem dn_new {dn dn9 : Nat → Int32} {to d : Nat} (h : ∀ k, k < 11 → ∃ d, d ≤ 24 ∧ dn k = nI d) (h1 : dn9 to = nI d) (h2 : d ≤ 24) (h3 : ∀ k, k ≠ to → dn9 k = dn k) : ∀ k, k < 11 → ∃ d, d ≤ 24 ∧ dn9 k = nI d := by
  intro k hk
  by_cases e : k = to
  · rw [e]; exact ⟨d, h2, h1⟩
  · rw [h3 k e]; exact h k hk
