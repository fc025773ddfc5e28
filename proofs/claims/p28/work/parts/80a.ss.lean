theorem rHz_ss {np nf nr na z : Nat} {ss ss' bo ju dr dn sl ax : Nat → Int32} (b0 : np ≤ 30) (b1 : nf ≤ 40) (b2 : nr ≤ 4) (e : ∀ k, (10 ≤ k ∧ k < 262) ∨ 466 ≤ k → ss' k = ss k) (h : rHz np nf nr na ss bo ju dr dn sl ax z) : rHz np nf nr na ss' bo ju dr dn sl ax z := by
  have ek : ∀ q, kS ss q = kS ss' q := fun q => by
    funext c
    unfold kS
    by_cases hc : c < 10
    · rw [if_pos hc, if_pos hc]; exact (e _ (by omega)).symm
    · rw [if_neg hc, if_neg hc]; exact (e _ (by omega)).symm
  have el : ∀ q, rL ss q = rL ss' q := fun q => by
    have e1 : (fun k => ss (54 * q + 469 + k + 1)) = (fun k => ss' (54 * q + 469 + k + 1)) := by
      funext k
      exact (e _ (by omega)).symm
    unfold rL
    rw [e (54 * q + 469) (by omega), e1]
  obtain ⟨_, h2, h3⟩ := hear_congr (np := np) (nf := nf) (nr := nr) (na := na) (n := z + 1) (P := fun i c => ss (4 * i + c + 10)) (P' := fun i c => ss' (4 * i + c + 10)) (F := fun i c => ss (3 * i + c + 130)) (F' := fun i c => ss' (3 * i + c + 130)) (R := fun i c => ss (3 * i + c + 250)) (R' := fun i c => ss' (3 * i + c + 250)) (A := fun i c => ss (54 * i + c + 466)) (A' := fun i c => ss' (54 * i + c + 466)) (T := fun t c => ss (10 * t + c + 1546)) (T' := fun t c => ss' (10 * t + c + 1546)) (K := kS ss) (K' := kS ss') (LO := rL ss) (LO' := rL ss') (fun p hp c hc => (e _ (by omega)).symm) (fun i hi c hc => (e _ (by omega)).symm) (fun i hi c hc => (e _ (by omega)).symm) (fun i hi c hc => (e _ (by omega)).symm) (fun q _ => el q) (fun q hq c hc => (e _ (by omega)).symm) (fun q hq c hc => congrFun (ek q) c) (t := z) (by omega)
  have h2 : rFt np nf nr na ss z = rFt np nf nr na ss' z := h2
  have h3 : rBx np nf nr na ss z = rBx np nf nr na ss' z := h3
  unfold rHz at h ⊢
  rw [← h2, ← h3, ← ek z]
  exact h

