theorem stI_of {im im4 : Nat → Int32} {o : Nat} (h : stI im o) (e : ∀ k, k < 2246 → im4 (k + o) = im (k + o)) : stI im4 o := by
  obtain ⟨p1, p2, p3, p4, p5, h⟩ := h
  have h3 := h.c3
  have h4 := h.c4
  exact ⟨p1, p2, p3, p4, p5, h.keep (fun k hk => e k (by omega)) (fun t ht => e _ (by omega)) (fun a j ha hj => e _ (by omega)) (fun t ht => ⟨e _ (by omega), e _ (by omega)⟩)⟩
theorem stI_new {s im4 : Nat → Int32} {o np nf nr na nt : Nat} (h : stOK s np nf nr na nt) (e : ∀ k, k < 2246 → im4 (k + o) = s k) : stI im4 o := by
  have h3 := h.c3
  have h4 := h.c4
  exact ⟨np, nf, nr, na, nt, h.keep (fun k hk => e k (by omega)) (fun t ht => e _ (by omega)) (fun a j ha hj => e _ (by omega)) (fun t ht => ⟨e _ (by omega), e _ (by omega)⟩)⟩
theorem stI_to {s4 im : Nat → Int32} {o : Nat} (h : stI im o) (e : ∀ k, k < 2246 → s4 k = im (k + o)) : ∃ np nf nr na nt, stOK s4 np nf nr na nt := by
  obtain ⟨p1, p2, p3, p4, p5, h⟩ := h
  have h3 := h.c3
  have h4 := h.c4
  exact ⟨p1, p2, p3, p4, p5, h.keep (fun k hk => e k (by omega)) (fun t ht => e _ (by omega)) (fun a j ha hj => e _ (by omega)) (fun t ht => ⟨e _ (by omega), e _ (by omega)⟩)⟩
def pcl (S : Nat) : Nat → Nat
  | 0 => 0
  | t + 1 => pcl S t + S / 2 ^ t % 2
theorem pcl_s {S : Nat} : ∀ k, pcl S (k + 1) = S % 2 + pcl (S / 2) k := by
  intro k
  induction k with
  | zero => show 0 + S / 2 ^ 0 % 2 = S % 2 + 0; rw [Nat.pow_zero, Nat.div_one]; omega
  | succ k ih =>
    show pcl S (k + 1) + S / 2 ^ (k + 1) % 2 = S % 2 + (pcl (S / 2) k + S / 2 / 2 ^ k % 2)
    rw [ih, Nat.div_div_eq_div_mul, Nat.pow_succ, Nat.mul_comm (2 ^ k) 2]
    omega
theorem pcn_l : ∀ k S, pcn k S = pcl S k := by
  intro k
  induction k with
  | zero => intro S; rfl
  | succ k ih => intro S; rw [pcl_s, pcn_s, ih]
theorem pcl_le {S t : Nat} : ∀ d, pcl S t ≤ pcl S (t + d) := by
  intro d
  induction d with
  | zero => exact Nat.le_refl _
  | succ d ih => exact Nat.le_trans ih (Nat.le_add_right _ _)
theorem pcl_6 {S t c : Nat} (ht : t ≤ 31) (hc : c = pcn 31 S) (h6 : c ≤ 6) : pcl S t ≤ 6 := by
  have h1 := pcl_le (S := S) (t := t) (31 - t)
  rw [show t + (31 - t) = 31 by omega] at h1
  rw [pcn_l] at hc
  omega
theorem pw_t : ∀ t, t ≤ 10 → ((1 : Int32) <<< (nI t &&& 31)) - 1 = nI (2 ^ t - 1) ∧ 2 ^ t ≤ 1024 := by decide
theorem m1_ge {k : Nat} (hk : k ≤ 6) (h : ¬ nI k - 1 < 0) : 1 ≤ k := by
  rcases Nat.eq_zero_or_pos k with z | z
  · subst z; exact absurd (by decide) h
  · exact z
theorem m1_sub (x : Int32) : x + (-1) = x - 1 := by
  rw [Int32.sub_eq_add_neg]
theorem six_m {n w : Nat} (h : w ≤ 6 ^ n) : 6 * w ≤ 6 ^ (n + 1) := by
  rw [Nat.pow_succ, Nat.mul_comm (6 ^ n) 6]
  exact Nat.mul_le_mul_left 6 h
theorem six_b {n w : Nat} (h : w ≤ 6 ^ n) (hn : n ≤ 6) : w ≤ 46656 := Nat.le_trans h (Nat.pow_le_pow_right (by decide) hn)
