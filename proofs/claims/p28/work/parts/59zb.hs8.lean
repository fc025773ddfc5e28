/-- what is kept of the class's trials -/
def trC (ct : Nat → Int32) (nt : Nat) : Prop := (∀ z, z < nt → ∃ q8 q6 ks : Nat, ct (70 * z + 8) = nI q8 ∧ q8 ≤ 24 ∧ ct (70 * z + 6) = nI q6 ∧ q6 ≤ 4 ∧ ct (70 * z + 2) = nI ks ∧ ks ≤ 8) ∧ (∀ a b, a ≤ b → b < nt → ¬ ct (70 * b + 0) < ct (70 * a + 0)) ∧ (∀ z, z < nt → (ct (70 * z + 8)).toNatClampNeg ≤ 24) ∧ ∀ z, z < nt → (∃ d, d ≤ 9999 ∧ ct (70 * z + 0) = nI d) ∧ ∃ e, 1 ≤ e ∧ e ≤ 9 ∧ ct (70 * z + 1) = nI e
/-- who is drawn i-th -/
def drV (box : Int32) (R : Nat → Int32) (q : Int32) : Int32 := if inN q (hM box R) = true then nI (drP box (R 7) q.toNatClampNeg) else -1
theorem saV_dr {box : Int32} {R od : Nat → Int32} {q : Int32} (h : ∀ i, i < hM box R → od i = nI (drP box (R 7) i)) (hm : hM box R ≤ 24) : saV od (hM box R) q = drV box R q := by
  unfold saV drV
  by_cases hq : inN q (hM box R) = true
  · rw [if_pos hq, if_pos hq]
    obtain ⟨i, hi, e⟩ := inN_nat (by omega) hq
    rw [e, nI_clamp (by omega)]
    exact h i hi
  · rw [if_neg hq, if_neg hq]
def abV (box pas : Int32) (R : Nat → Int32) : Nat → Int32
  | 0 => nI (cnt (hSw box pas R &&& (box ^^^ (-1))) 32)
  | 1 => nI (cnt (hX box R).1 32)
  | 2 => nI (cnt (hX box R).2 32)
  | _ => lotF (R 7) (hM box R)

