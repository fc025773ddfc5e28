theorem rHz_2p {np nf nr na z p : Nat} {ss bo ju dr dn sl ax : Nat → Int32} (h : rHz np nf nr na ss bo ju dr dn sl ax z) (hp : p < 30) : sl (30 * z + p) = 2 ↔ bt (hMi (rBx np nf nr na ss z) (kS ss z)) p = true := by
  rw [Nat.add_comm (30 * z) p]
  exact rHz_2 h hp

