def rW (np nf nr na : Nat) (ss : Nat → Int32) : (Nat → Int32) → Nat → Int32 := swT np nf nr na (fun i c => ss (4 * i + c + 10)) (fun i c => ss (3 * i + c + 130)) (fun i c => ss (3 * i + c + 250)) (fun i c => ss (54 * i + c + 466)) (fun t c => ss (10 * t + c + 1546)) (kS ss) (rL ss)
def rJr (np nf nr na : Nat) (ss : Nat → Int32) : Nat → Int32 := jT (rW np nf nr na ss)
def rLw (na : Nat) (ss : Nat → Int32) (s : Int32) (t : Nat) : Option (List (Int32 × Int32)) := (fcB (fun i c => ss (54 * i + c + 466)) s (ss (10 * t + 1546)) na).map (rL ss)
def rFt (np nf nr na : Nat) (ss : Nat → Int32) (t : Nat) : Int32 := fitT np nf (fun i c => ss (4 * i + c + 10)) (fun i c => ss (3 * i + c + 130)) (fun t c => ss (10 * t + c + 1546)) (rJr np nf nr na ss) t t (rLw na ss 0 t)
def rBx (np nf nr na : Nat) (ss : Nat → Int32) (t : Nat) : Int32 := boxT np nf nr (fun i c => ss (4 * i + c + 10)) (fun i c => ss (3 * i + c + 130)) (fun i c => ss (3 * i + c + 250)) (fun t c => ss (10 * t + c + 1546)) (rJr np nf nr na ss) t t (rLw na ss 0 t) (rLw na ss 1 t)
theorem rJr_eq {np nf nr na t : Nat} {ss : Nat → Int32} : rJr np nf nr na ss t = hSw (rBx np nf nr na ss t) (pasV (rFt np nf nr na ss t) (rBx np nf nr na ss t)) (kS ss t) := by
  refine (jT_eq (W := rW np nf nr na ss) (t := t) (fun J J' h => ?_)).trans rfl
  show swT _ _ _ _ _ _ _ _ _ _ _ J t = swT _ _ _ _ _ _ _ _ _ _ _ J' t
  unfold swT
  rw [fitT_congr (J := J) (J' := J') (fun _ _ _ _ => rfl) (fun _ _ _ _ => rfl) (fun _ _ _ _ => rfl) h, boxT_congr (J := J) (J' := J') (fun _ _ _ _ => rfl) (fun _ _ _ _ => rfl) (fun _ _ _ _ => rfl) (fun _ _ _ _ => rfl) h]
theorem rFt_at {np nf nr na t : Nat} {ss ju : Nat → Int32} (hJ : ∀ q, q < t → ju q = rJr np nf nr na ss q) : fitT np nf (fun i c => ss (4 * i + c + 10)) (fun i c => ss (3 * i + c + 130)) (fun t c => ss (10 * t + c + 1546)) ju t t (rLw na ss 0 t) = rFt np nf nr na ss t :=
  fitT_congr (fun _ _ _ _ => rfl) (fun _ _ _ _ => rfl) (fun _ _ _ _ => rfl) hJ
theorem rBx_at {np nf nr na t : Nat} {ss ju : Nat → Int32} (hJ : ∀ q, q < t → ju q = rJr np nf nr na ss q) : boxT np nf nr (fun i c => ss (4 * i + c + 10)) (fun i c => ss (3 * i + c + 130)) (fun i c => ss (3 * i + c + 250)) (fun t c => ss (10 * t + c + 1546)) ju t t (rLw na ss 0 t) (rLw na ss 1 t) = rBx np nf nr na ss t :=
  boxT_congr (fun _ _ _ _ => rfl) (fun _ _ _ _ => rfl) (fun _ _ _ _ => rfl) (fun _ _ _ _ => rfl) hJ
/-- what is kept of trials -/
def trOK (ss : Nat → Int32) (nt : Nat) : Prop := (∀ t, t < nt → (∃ d, d ≤ 9999 ∧ ss (10 * t + 1546) = nI d) ∧ (∃ e, 1 ≤ e ∧ e ≤ 9 ∧ ss (10 * t + 1547) = nI e) ∧ ∃ k, k ≤ 8 ∧ ss (10 * t + 1548) = nI k) ∧ ∀ o t, o ≤ t → t < nt → ss (10 * o + 1546) ≤ ss (10 * t + 1546)
theorem trOK.d0 {ss : Nat → Int32} {nt : Nat} (h : trOK ss nt) : ∀ o, o < nt → 0 ≤ ss (10 * o + 1546) := fun o ho => by
  obtain ⟨⟨d, hd, e⟩, _⟩ := h.1 o ho
  rw [e]; exact nI_pos9 (by omega)
theorem trOK.s1 {ss : Nat → Int32} {nt t : Nat} (h : trOK ss nt) (ht : t < nt) : ∀ o, o < t → ¬ ss (10 * t + 1546) + ss (10 * t + 1547) ≤ ss (10 * o + 1546) := fun o ho => by
  obtain ⟨⟨d, hd, e⟩, ⟨g, g1, g2, eg⟩, _⟩ := h.1 t ht
  obtain ⟨⟨d', hd', e'⟩, _⟩ := h.1 o (by omega)
  have hm := h.2 o t (by omega) ht
  rw [e, e', nI_leI (by omega) (by omega)] at hm
  rw [e, eg, e', nI_add, nI_leI (by omega) (by omega)]
  omega
theorem trOK.s2 {ss : Nat → Int32} {nt t : Nat} (h : trOK ss nt) (ht : t < nt) : ∀ o, o < t → (ss (10 * o + 1546) + ss (10 * o + 1547) ≤ ss (10 * t + 1546) ↔ ¬ ss (10 * t + 1546) ≤ ss (10 * o + 1546) + ss (10 * o + 1547) - 1) := fun o ho => by
  obtain ⟨⟨d, hd, e⟩, _⟩ := h.1 t ht
  obtain ⟨⟨d', hd', e'⟩, ⟨g, g1, g2, eg⟩, _⟩ := h.1 o (by omega)
  rw [e, e', eg, nI_add, show nI (d' + g) - 1 = nI (d' + g - 1) from pk_sub (b := 1) (by omega), nI_leI (by omega) (by omega), nI_leI (by omega) (by omega)]
  omega
/-- the reference's rows of hearings below n are as they must be -/
def rHz (np nf nr na : Nat) (ss bo ju dr dn sl ax : Nat → Int32) (z : Nat) : Prop := rQ bo ju dr dn sl ax z (rBx np nf nr na ss z) (pasV (rFt np nf nr na ss z) (rBx np nf nr na ss z)) (kS ss z)
theorem rHz_ju {np nf nr na z : Nat} {ss bo ju dr dn sl ax : Nat → Int32} (h : rHz np nf nr na ss bo ju dr dn sl ax z) : ju z = rJr np nf nr na ss z := h.2.1.trans rJr_eq.symm
theorem rHz_new {np nf nr na t nt : Nat} {ss bo ju dr dn sl ax bo' ju' dr' dn' sl' ax' : Nat → Int32} (hs : stOK ss np nf nr na nt) (ht : t < nt) (h : ∀ z, z < t → rHz np nf nr na ss bo ju dr dn sl ax z) (hn : rHz np nf nr na ss bo' ju' dr' dn' sl' ax' t)
    (h1 : ∀ k, k ≠ t → bo' k = bo k ∧ ju' k = ju k ∧ dn' k = dn k) (h2 : ∀ k, (k < 24 * t ∨ 24 * t + 24 ≤ k) → dr' k = dr k) (h3 : ∀ k, (k < 30 * t ∨ 30 + 30 * t ≤ k) → sl' k = sl k) (h4 : ∀ k, (k < 4 * t ∨ 4 * t + 4 ≤ k) → ax' k = ax k) : ∀ z, z < t + 1 → rHz np nf nr na ss bo' ju' dr' dn' sl' ax' z := by
  intro z hz
  by_cases e : z = t
  · rw [e]; exact hn
  · obtain ⟨_, sq, hsq, e8⟩ := hs.tr z (by omega)
    exact rQ_fr (h z (by omega)) (h1 z e).1 (h1 z e).2.1 (h1 z e).2.2 (fun k hk => h2 _ (by omega)) (fun k hk => h3 _ (by omega)) (fun k hk => h4 _ (by omega)) (by show (ss (10 * z + 8 + 1546)).toNatClampNeg ≤ 24; rw [nI_b9 e8 (by omega)]; exact hsq)

