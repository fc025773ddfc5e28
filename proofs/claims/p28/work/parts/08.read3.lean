theorem max_q {p e : Nat} (hp : p ≤ 50) (he : e ≤ 50) : (if nI p < nI e - 1 then nI e - 1 else nI p) = nI (max p (e - 1)) := by
  rcases Nat.eq_zero_or_pos e with h | h
  · subst h
    rw [if_neg (fun z => by
      have h1 := Int32.lt_iff_toInt_lt.mp z
      rw [nI_toInt (by omega)] at h1
      have h2 : (nI 0 - 1 : Int32).toInt = -1 := by decide
      omega)]
    rw [show max p (0 - 1) = p by omega]
  · have e1 : nI e - 1 = nI (e - 1) := pk_sub (b := 1) h
    rw [e1]
    by_cases q : p < e - 1
    · rw [if_pos (nI_lt q (by omega)), show max p (e - 1) = e - 1 by omega]
    · rw [if_neg (fun z => q ((nI_ltI (by omega) (by omega)).mp z)), show max p (e - 1) = p by omega]
