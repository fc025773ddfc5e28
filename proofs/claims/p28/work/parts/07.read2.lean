theorem max_p {m : Nat} (hm : m ≤ 50) : (if (0 : Int32) < nI m - 1 then nI m - 1 else 0) = nI (m - 1) := by
  rcases Nat.eq_zero_or_pos m with h | h
  · subst h; rfl
  · have e : nI m - 1 = nI (m - 1) := pk_sub (b := 1) h
    rw [e]
    split
    · rfl
    · rename_i q
      have h2 : ¬ 0 < m - 1 := fun z => q (nI_lt (a := 0) z (by omega))
      rw [show m - 1 = 0 by omega]; rfl
