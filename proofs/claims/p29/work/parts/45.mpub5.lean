theorem stI_of {im im4 : Nat → Int32} {o : Nat} (h : stI im o) (e : ∀ k, k < 2246 → im4 (k + o) = im (k + o)) : stI im4 o := by
  obtain ⟨p1, p2, p3, p4, p5, h⟩ := h
  have h3 := h.c3
  have h4 := h.c4
  exact ⟨p1, p2, p3, p4, p5, h.keep (fun k hk => e k (by omega)) (fun t ht => e _ (by omega)) (fun a j ha hj => e _ (by omega)) (fun t ht => ⟨e _ (by omega), e _ (by omega)⟩)⟩
theorem stI_new {s im4 : Nat → Int32} {o np nf nr na nt : Nat} (h : stOK s np nf nr na nt) (e : ∀ k, k < 2246 → im4 (k + o) = s k) : stI im4 o := by
  have h3 := h.c3
  have h4 := h.c4
  exact ⟨np, nf, nr, na, nt, h.keep (fun k hk => e k (by omega)) (fun t ht => e _ (by omega)) (fun a j ha hj => e _ (by omega)) (fun t ht => ⟨e _ (by omega), e _ (by omega)⟩)⟩
theorem stI_to {s4 im : Nat → Int32} {o : Nat} (h : stI im o) (e : ∀ k, k < 2246 → s4 k = im (k + o)) : ∃ np nf nr na nt, stOK s4 np nf nr na nt := by
  obtain ⟨p1, p2, p3, p4, p5, h⟩ := h
  have h3 := h.c3
  have h4 := h.c4
  exact ⟨p1, p2, p3, p4, p5, h.keep (fun k hk => e k (by omega)) (fun t ht => e _ (by omega)) (fun a j ha hj => e _ (by omega)) (fun t ht => ⟨e _ (by omega), e _ (by omega)⟩)⟩
theorem m1_sub (x : Int32) : x + (-1) = x - 1 := by
  rw [Int32.sub_eq_add_neg]
