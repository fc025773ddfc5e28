theorem wh_p {wh : Nat → Int32} {n t : Nat} (h : ∀ k, k < n → ∃ z, z < 10 ∧ wh k = nI z) (ht : t < 10) : ∀ k, k < n + 1 → ∃ z, z < 10 ∧ upd wh n (nI t) k = nI z := by
  intro k hk
  by_cases e : k = n
  · rw [e, pk_us]; exact ⟨t, ht, rfl⟩
  · rw [pk_un e]; exact h k (by omega)
theorem se_p {wh : Nat → Int32} {n t S : Nat} (h : ∀ z, z < t → S / 2 ^ z % 2 = 1 → ∃ k, k < n ∧ wh k = nI z) : ∀ z, z < t + 1 → S / 2 ^ z % 2 = 1 → ∃ k, k < n + 1 ∧ upd wh n (nI t) k = nI z := by
  intro z hz hb
  by_cases e : z = t
  · rw [e]; exact ⟨n, by omega, pk_us⟩
  · obtain ⟨k, hk, ek⟩ := h z (by omega) hb
    exact ⟨k, by omega, (pk_un (by omega)).trans ek⟩
theorem se_n {wh : Nat → Int32} {n t S : Nat} (h : ∀ z, z < t → S / 2 ^ z % 2 = 1 → ∃ k, k < n ∧ wh k = nI z) (hn : ¬ S / 2 ^ t % 2 = 1) : ∀ z, z < t + 1 → S / 2 ^ z % 2 = 1 → ∃ k, k < n ∧ wh k = nI z := by
  intro z hz hb
  by_cases e : z = t
  · rw [e] at hb; exact absurd hb hn
  · exact h z (by omega) hb
