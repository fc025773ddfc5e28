/-! ===== what is kept of trials ===== -/
theorem trC_congr {ct ct' : Nat → Int32} {n : Nat} (h : trC ct n) (hn : n ≤ 10) (e : ∀ i, i < 700 → ct' i = ct i) : trC ct' n := by
  obtain ⟨h1, h2, h3, h4⟩ := h
  refine ⟨fun z hz => ?_, fun a b h5 h6 => ?_, fun z hz => ?_, fun z hz => ?_⟩
  · rw [e (70 * z + 8) (by omega), e (70 * z + 6) (by omega), e (70 * z + 2) (by omega)]; exact h1 z hz
  · rw [e (70 * b + 0) (by omega), e (70 * a + 0) (by omega)]; exact h2 a b h5 h6
  · rw [e (70 * z + 8) (by omega)]; exact h3 z hz
  · rw [e (70 * z + 0) (by omega), e (70 * z + 1) (by omega)]; exact h4 z hz
theorem trC_upd {ct : Nat → Int32} {n x w : Nat} {v : Int32} (h : trC ct n) (hw : 9 ≤ w) (hw7 : w < 70) : trC (upd ct (70 * x + w) v) n := by
  have e : ∀ z c, c < 9 → upd ct (70 * x + w) v (70 * z + c) = ct (70 * z + c) := fun z c hc => pk_un (by omega)
  obtain ⟨h1, h2, h3, h4⟩ := h
  refine ⟨fun z hz => ?_, fun a b h5 h6 => ?_, fun z hz => ?_, fun z hz => ?_⟩
  · rw [e z 8 (by omega), e z 6 (by omega), e z 2 (by omega)]; exact h1 z hz
  · rw [e b 0 (by omega), e a 0 (by omega)]; exact h2 a b h5 h6
  · rw [e z 8 (by omega)]; exact h3 z hz
  · rw [e z 0 (by omega), e z 1 (by omega)]; exact h4 z hz
theorem trC_new {ct ct' : Nat → Int32} {n : Nat} {a1 a2 a3 a7 a9 : Int32} (h : trC ct n) (hn : n < 10) (un : ∀ k, k < 70 * n → ct' k = ct k) (e0 : ct' (70 * n + 0) = a1) (e1 : ct' (70 * n + 1) = a2) (e2 : ct' (70 * n + 2) = a3) (e6 : ct' (70 * n + 6) = a7) (e8 : ct' (70 * n + 8) = a9)
    (o0 : inB 0 a1 9999 = true) (ol : n = 0 ∨ ¬ a1 < ct (70 * (n - 1) + 0)) (o1 : inB 1 a2 9 = true) (o2 : inB 1 a3 8 = true) (o6 : inB 0 a7 4 = true) (o8 : inB 1 a9 24 = true) : trC ct' (n + 1) := by
  obtain ⟨h1, h2, h3, h4⟩ := h
  obtain ⟨d, hd, f0⟩ := inB_n (b := 9999) (by decide) o0
  obtain ⟨g, hg, f1⟩ := inB_1n (b := 9) (by decide) o1
  obtain ⟨k, hk, f2⟩ := inB_1n (b := 8) (by decide) o2
  obtain ⟨q, hq, f6⟩ := inB_n (b := 4) (by decide) o6
  obtain ⟨r, hr, f8⟩ := inB_1n (b := 24) (by decide) o8
  have hg1 : 1 ≤ g := by
    have h9 := (of_decide_eq_true o1).1
    rw [f1] at h9
    exact (nI_leI (a := 1) (b := g) (by decide) (by omega)).mp h9
  have u : ∀ z c, z < n → c < 70 → ct' (70 * z + c) = ct (70 * z + c) := fun z c hz hc => un _ (by omega)
  refine ⟨fun z hz => ?_, fun a b h5 h6 => ?_, fun z hz => ?_, fun z hz => ?_⟩
  · by_cases e : z = n
    · rw [e, e8, e6, e2]; exact ⟨r, q, k, f8, hr, f6, hq, f2, hk⟩
    · rw [u z 8 (by omega) (by omega), u z 6 (by omega) (by omega), u z 2 (by omega) (by omega)]; exact h1 z (by omega)
  · by_cases e : b = n
    · rw [e, e0]
      by_cases ea : a = n
      · rw [ea, e0]; exact fun z => absurd z (Int32.not_lt.mpr (Int32.le_refl _))
      · rw [u a 0 (by omega) (by omega)]
        rcases ol with z | z
        · omega
        · have h7 := h2 a (n - 1) (by omega) (by omega)
          exact Int32.not_lt.mpr (Int32.le_trans (Int32.not_lt.mp h7) (Int32.not_lt.mp z))
    · rw [u b 0 (by omega) (by omega), u a 0 (by omega) (by omega)]; exact h2 a b h5 (by omega)
  · by_cases e : z = n
    · rw [e, e8, f8, nI_clamp (by omega)]; exact hr
    · rw [u z 8 (by omega) (by omega)]; exact h3 z (by omega)
  · by_cases e : z = n
    · rw [e, e0, e1]; exact ⟨⟨d, hd, f0⟩, g, hg1, hg, f1⟩
    · rw [u z 0 (by omega) (by omega), u z 1 (by omega) (by omega)]; exact h4 z (by omega)
def rcF (na : Nat) (da : Nat → Int32) (LL : Nat → Nat) (LG : Nat → Nat → Int32) (np : Nat) (nf : Nat) (nr : Nat) (nt : Nat) (dp : Nat → Int32) (df : Nat → Int32) (dr : Nat → Int32) (ct : Nat → Int32) (pay : Int32) (fine : Int32) (T : Nat → Nat) (S : Nat → Nat → Int32) (s : Nat → Int32) : Prop := (s 0 = nI np) ∧ (s 1 = nI nf) ∧ (s 2 = nI nr) ∧ (s 4 = nI nt) ∧ (np ≤ 30) ∧ (nf ≤ 40) ∧ (nr ≤ 4) ∧ (nt ≤ 10) ∧ (s 5 = pay) ∧ (s 6 = fine) ∧ (∀ k, k < 4 * np → s (k + 10) = dp k) ∧ (∀ k, k < 3 * nf → s (k + 130) = df k) ∧ (∀ k, k < 3 * nr → s (k + 250) = dr k) ∧ (∀ t, t < nt → ∀ c, c < 10 → s (10 * t + c + 1546) = ct (70 * t + c)) ∧ (∀ t, t < nt → ∀ c, c < 60 → s (60 * t + c + 1646) = ct (70 * t + c + 10)) ∧ (∀ k, 70 * nt ≤ k → k < 700 → ct k = 0) ∧ (∀ x, x < 4 → s (51 * x + 262) = nI (T x)) ∧ (∀ x, x < 4 → T x ≤ 50) ∧ (∀ x, x < 4 → ∀ k, k < T x → s (51 * x + k + 263) = S x k) ∧ (∀ t, t < nt → 0 ≤ ct (70 * t)) ∧ (s 3 = nI na) ∧ (na ≤ 20) ∧ (∀ i, i < na → ∀ c, c < 3 → s (54 * i + c + 466) = da (3 * i + c)) ∧ (∀ i, i < na → s (54 * i + 469) = nI (LL i)) ∧ (∀ i, i < na → LL i ≤ 50) ∧ (∀ i, i < na → ∀ k, k < LL i → s (54 * i + k + 470) = LG i k) ∧ (trC ct nt)
theorem rcF.n0 {na : Nat} {da : Nat → Int32} {LL : Nat → Nat} {LG : Nat → Nat → Int32} {np nf nr nt : Nat} {dp df dr ct : Nat → Int32} {pay fine : Int32} {T : Nat → Nat} {S : Nat → Nat → Int32} {s : Nat → Int32} (h : rcF na da LL LG np nf nr nt dp df dr ct pay fine T S s) : s 0 = nI np := h.1
theorem rcF.n1 {na : Nat} {da : Nat → Int32} {LL : Nat → Nat} {LG : Nat → Nat → Int32} {np nf nr nt : Nat} {dp df dr ct : Nat → Int32} {pay fine : Int32} {T : Nat → Nat} {S : Nat → Nat → Int32} {s : Nat → Int32} (h : rcF na da LL LG np nf nr nt dp df dr ct pay fine T S s) : s 1 = nI nf := h.2.1
theorem rcF.n2 {na : Nat} {da : Nat → Int32} {LL : Nat → Nat} {LG : Nat → Nat → Int32} {np nf nr nt : Nat} {dp df dr ct : Nat → Int32} {pay fine : Int32} {T : Nat → Nat} {S : Nat → Nat → Int32} {s : Nat → Int32} (h : rcF na da LL LG np nf nr nt dp df dr ct pay fine T S s) : s 2 = nI nr := h.2.2.1
theorem rcF.n4 {na : Nat} {da : Nat → Int32} {LL : Nat → Nat} {LG : Nat → Nat → Int32} {np nf nr nt : Nat} {dp df dr ct : Nat → Int32} {pay fine : Int32} {T : Nat → Nat} {S : Nat → Nat → Int32} {s : Nat → Int32} (h : rcF na da LL LG np nf nr nt dp df dr ct pay fine T S s) : s 4 = nI nt := h.2.2.2.1
theorem rcF.b0 {na : Nat} {da : Nat → Int32} {LL : Nat → Nat} {LG : Nat → Nat → Int32} {np nf nr nt : Nat} {dp df dr ct : Nat → Int32} {pay fine : Int32} {T : Nat → Nat} {S : Nat → Nat → Int32} {s : Nat → Int32} (h : rcF na da LL LG np nf nr nt dp df dr ct pay fine T S s) : np ≤ 30 := h.2.2.2.2.1
theorem rcF.b1 {na : Nat} {da : Nat → Int32} {LL : Nat → Nat} {LG : Nat → Nat → Int32} {np nf nr nt : Nat} {dp df dr ct : Nat → Int32} {pay fine : Int32} {T : Nat → Nat} {S : Nat → Nat → Int32} {s : Nat → Int32} (h : rcF na da LL LG np nf nr nt dp df dr ct pay fine T S s) : nf ≤ 40 := h.2.2.2.2.2.1
theorem rcF.b2 {na : Nat} {da : Nat → Int32} {LL : Nat → Nat} {LG : Nat → Nat → Int32} {np nf nr nt : Nat} {dp df dr ct : Nat → Int32} {pay fine : Int32} {T : Nat → Nat} {S : Nat → Nat → Int32} {s : Nat → Int32} (h : rcF na da LL LG np nf nr nt dp df dr ct pay fine T S s) : nr ≤ 4 := h.2.2.2.2.2.2.1
theorem rcF.b4 {na : Nat} {da : Nat → Int32} {LL : Nat → Nat} {LG : Nat → Nat → Int32} {np nf nr nt : Nat} {dp df dr ct : Nat → Int32} {pay fine : Int32} {T : Nat → Nat} {S : Nat → Nat → Int32} {s : Nat → Int32} (h : rcF na da LL LG np nf nr nt dp df dr ct pay fine T S s) : nt ≤ 10 := h.2.2.2.2.2.2.2.1
theorem rcF.p0 {na : Nat} {da : Nat → Int32} {LL : Nat → Nat} {LG : Nat → Nat → Int32} {np nf nr nt : Nat} {dp df dr ct : Nat → Int32} {pay fine : Int32} {T : Nat → Nat} {S : Nat → Nat → Int32} {s : Nat → Int32} (h : rcF na da LL LG np nf nr nt dp df dr ct pay fine T S s) : s 5 = pay := h.2.2.2.2.2.2.2.2.1
theorem rcF.p1 {na : Nat} {da : Nat → Int32} {LL : Nat → Nat} {LG : Nat → Nat → Int32} {np nf nr nt : Nat} {dp df dr ct : Nat → Int32} {pay fine : Int32} {T : Nat → Nat} {S : Nat → Nat → Int32} {s : Nat → Int32} (h : rcF na da LL LG np nf nr nt dp df dr ct pay fine T S s) : s 6 = fine := h.2.2.2.2.2.2.2.2.2.1
theorem rcF.e0 {na : Nat} {da : Nat → Int32} {LL : Nat → Nat} {LG : Nat → Nat → Int32} {np nf nr nt : Nat} {dp df dr ct : Nat → Int32} {pay fine : Int32} {T : Nat → Nat} {S : Nat → Nat → Int32} {s : Nat → Int32} (h : rcF na da LL LG np nf nr nt dp df dr ct pay fine T S s) : ∀ k, k < 4 * np → s (k + 10) = dp k := h.2.2.2.2.2.2.2.2.2.2.1
theorem rcF.e1 {na : Nat} {da : Nat → Int32} {LL : Nat → Nat} {LG : Nat → Nat → Int32} {np nf nr nt : Nat} {dp df dr ct : Nat → Int32} {pay fine : Int32} {T : Nat → Nat} {S : Nat → Nat → Int32} {s : Nat → Int32} (h : rcF na da LL LG np nf nr nt dp df dr ct pay fine T S s) : ∀ k, k < 3 * nf → s (k + 130) = df k := h.2.2.2.2.2.2.2.2.2.2.2.1
theorem rcF.e2 {na : Nat} {da : Nat → Int32} {LL : Nat → Nat} {LG : Nat → Nat → Int32} {np nf nr nt : Nat} {dp df dr ct : Nat → Int32} {pay fine : Int32} {T : Nat → Nat} {S : Nat → Nat → Int32} {s : Nat → Int32} (h : rcF na da LL LG np nf nr nt dp df dr ct pay fine T S s) : ∀ k, k < 3 * nr → s (k + 250) = dr k := h.2.2.2.2.2.2.2.2.2.2.2.2.1
theorem rcF.e4 {na : Nat} {da : Nat → Int32} {LL : Nat → Nat} {LG : Nat → Nat → Int32} {np nf nr nt : Nat} {dp df dr ct : Nat → Int32} {pay fine : Int32} {T : Nat → Nat} {S : Nat → Nat → Int32} {s : Nat → Int32} (h : rcF na da LL LG np nf nr nt dp df dr ct pay fine T S s) : ∀ t, t < nt → ∀ c, c < 10 → s (10 * t + c + 1546) = ct (70 * t + c) := h.2.2.2.2.2.2.2.2.2.2.2.2.2.1
theorem rcF.l4 {na : Nat} {da : Nat → Int32} {LL : Nat → Nat} {LG : Nat → Nat → Int32} {np nf nr nt : Nat} {dp df dr ct : Nat → Int32} {pay fine : Int32} {T : Nat → Nat} {S : Nat → Nat → Int32} {s : Nat → Int32} (h : rcF na da LL LG np nf nr nt dp df dr ct pay fine T S s) : ∀ t, t < nt → ∀ c, c < 60 → s (60 * t + c + 1646) = ct (70 * t + c + 10) := h.2.2.2.2.2.2.2.2.2.2.2.2.2.2.1
theorem rcF.z4 {na : Nat} {da : Nat → Int32} {LL : Nat → Nat} {LG : Nat → Nat → Int32} {np nf nr nt : Nat} {dp df dr ct : Nat → Int32} {pay fine : Int32} {T : Nat → Nat} {S : Nat → Nat → Int32} {s : Nat → Int32} (h : rcF na da LL LG np nf nr nt dp df dr ct pay fine T S s) : ∀ k, 70 * nt ≤ k → k < 700 → ct k = 0 := h.2.2.2.2.2.2.2.2.2.2.2.2.2.2.2.1
theorem rcF.tt {na : Nat} {da : Nat → Int32} {LL : Nat → Nat} {LG : Nat → Nat → Int32} {np nf nr nt : Nat} {dp df dr ct : Nat → Int32} {pay fine : Int32} {T : Nat → Nat} {S : Nat → Nat → Int32} {s : Nat → Int32} (h : rcF na da LL LG np nf nr nt dp df dr ct pay fine T S s) : ∀ x, x < 4 → s (51 * x + 262) = nI (T x) := h.2.2.2.2.2.2.2.2.2.2.2.2.2.2.2.2.1
theorem rcF.tb {na : Nat} {da : Nat → Int32} {LL : Nat → Nat} {LG : Nat → Nat → Int32} {np nf nr nt : Nat} {dp df dr ct : Nat → Int32} {pay fine : Int32} {T : Nat → Nat} {S : Nat → Nat → Int32} {s : Nat → Int32} (h : rcF na da LL LG np nf nr nt dp df dr ct pay fine T S s) : ∀ x, x < 4 → T x ≤ 50 := h.2.2.2.2.2.2.2.2.2.2.2.2.2.2.2.2.2.1
theorem rcF.ts {na : Nat} {da : Nat → Int32} {LL : Nat → Nat} {LG : Nat → Nat → Int32} {np nf nr nt : Nat} {dp df dr ct : Nat → Int32} {pay fine : Int32} {T : Nat → Nat} {S : Nat → Nat → Int32} {s : Nat → Int32} (h : rcF na da LL LG np nf nr nt dp df dr ct pay fine T S s) : ∀ x, x < 4 → ∀ k, k < T x → s (51 * x + k + 263) = S x k := h.2.2.2.2.2.2.2.2.2.2.2.2.2.2.2.2.2.2.1
theorem rcF.d4 {na : Nat} {da : Nat → Int32} {LL : Nat → Nat} {LG : Nat → Nat → Int32} {np nf nr nt : Nat} {dp df dr ct : Nat → Int32} {pay fine : Int32} {T : Nat → Nat} {S : Nat → Nat → Int32} {s : Nat → Int32} (h : rcF na da LL LG np nf nr nt dp df dr ct pay fine T S s) : ∀ t, t < nt → 0 ≤ ct (70 * t) := h.2.2.2.2.2.2.2.2.2.2.2.2.2.2.2.2.2.2.2.1
theorem rcF.n3 {na : Nat} {da : Nat → Int32} {LL : Nat → Nat} {LG : Nat → Nat → Int32} {np nf nr nt : Nat} {dp df dr ct : Nat → Int32} {pay fine : Int32} {T : Nat → Nat} {S : Nat → Nat → Int32} {s : Nat → Int32} (h : rcF na da LL LG np nf nr nt dp df dr ct pay fine T S s) : s 3 = nI na := h.2.2.2.2.2.2.2.2.2.2.2.2.2.2.2.2.2.2.2.2.1
theorem rcF.b3 {na : Nat} {da : Nat → Int32} {LL : Nat → Nat} {LG : Nat → Nat → Int32} {np nf nr nt : Nat} {dp df dr ct : Nat → Int32} {pay fine : Int32} {T : Nat → Nat} {S : Nat → Nat → Int32} {s : Nat → Int32} (h : rcF na da LL LG np nf nr nt dp df dr ct pay fine T S s) : na ≤ 20 := h.2.2.2.2.2.2.2.2.2.2.2.2.2.2.2.2.2.2.2.2.2.1
theorem rcF.a3 {na : Nat} {da : Nat → Int32} {LL : Nat → Nat} {LG : Nat → Nat → Int32} {np nf nr nt : Nat} {dp df dr ct : Nat → Int32} {pay fine : Int32} {T : Nat → Nat} {S : Nat → Nat → Int32} {s : Nat → Int32} (h : rcF na da LL LG np nf nr nt dp df dr ct pay fine T S s) : ∀ i, i < na → ∀ c, c < 3 → s (54 * i + c + 466) = da (3 * i + c) := h.2.2.2.2.2.2.2.2.2.2.2.2.2.2.2.2.2.2.2.2.2.2.1
theorem rcF.l3 {na : Nat} {da : Nat → Int32} {LL : Nat → Nat} {LG : Nat → Nat → Int32} {np nf nr nt : Nat} {dp df dr ct : Nat → Int32} {pay fine : Int32} {T : Nat → Nat} {S : Nat → Nat → Int32} {s : Nat → Int32} (h : rcF na da LL LG np nf nr nt dp df dr ct pay fine T S s) : ∀ i, i < na → s (54 * i + 469) = nI (LL i) := h.2.2.2.2.2.2.2.2.2.2.2.2.2.2.2.2.2.2.2.2.2.2.2.1
theorem rcF.m3 {na : Nat} {da : Nat → Int32} {LL : Nat → Nat} {LG : Nat → Nat → Int32} {np nf nr nt : Nat} {dp df dr ct : Nat → Int32} {pay fine : Int32} {T : Nat → Nat} {S : Nat → Nat → Int32} {s : Nat → Int32} (h : rcF na da LL LG np nf nr nt dp df dr ct pay fine T S s) : ∀ i, i < na → LL i ≤ 50 := h.2.2.2.2.2.2.2.2.2.2.2.2.2.2.2.2.2.2.2.2.2.2.2.2.1
theorem rcF.g3 {na : Nat} {da : Nat → Int32} {LL : Nat → Nat} {LG : Nat → Nat → Int32} {np nf nr nt : Nat} {dp df dr ct : Nat → Int32} {pay fine : Int32} {T : Nat → Nat} {S : Nat → Nat → Int32} {s : Nat → Int32} (h : rcF na da LL LG np nf nr nt dp df dr ct pay fine T S s) : ∀ i, i < na → ∀ k, k < LL i → s (54 * i + k + 470) = LG i k := h.2.2.2.2.2.2.2.2.2.2.2.2.2.2.2.2.2.2.2.2.2.2.2.2.2.1
theorem rcF.tc {na : Nat} {da : Nat → Int32} {LL : Nat → Nat} {LG : Nat → Nat → Int32} {np nf nr nt : Nat} {dp df dr ct : Nat → Int32} {pay fine : Int32} {T : Nat → Nat} {S : Nat → Nat → Int32} {s : Nat → Int32} (h : rcF na da LL LG np nf nr nt dp df dr ct pay fine T S s) : trC ct nt := h.2.2.2.2.2.2.2.2.2.2.2.2.2.2.2.2.2.2.2.2.2.2.2.2.2.2
theorem rcF_un {na : Nat} {da : Nat → Int32} {LL : Nat → Nat} {LG : Nat → Nat → Int32} {np nf nr nt : Nat} {dp df dr ct : Nat → Int32} {pay fine : Int32} {T : Nat → Nat} {S : Nat → Nat → Int32} {s : Nat → Int32} {s' : Nat → Int32} (h : rcF na da LL LG np nf nr nt dp df dr ct pay fine T S s) (hm : ∀ k, k < 2246 → s' k = s k) : rcF na da LL LG np nf nr nt dp df dr ct pay fine T S s' := by
  have b3 := h.b3
  have b0 := h.b0
  have b1 := h.b1
  have b2 := h.b2
  have b4 := h.b4
  exact ⟨(hm _ (by omega)).trans h.n0, (hm _ (by omega)).trans h.n1, (hm _ (by omega)).trans h.n2, (hm _ (by omega)).trans h.n4, h.b0, h.b1, h.b2, h.b4, (hm _ (by omega)).trans h.p0, (hm _ (by omega)).trans h.p1, fun k hk => (hm _ (by omega)).trans (h.e0 k hk), fun k hk => (hm _ (by omega)).trans (h.e1 k hk), fun k hk => (hm _ (by omega)).trans (h.e2 k hk), fun t ht c hc => (hm _ (by omega)).trans (h.e4 t ht c hc), fun t ht c hc => (hm _ (by omega)).trans (h.l4 t ht c hc), h.z4, fun x hx => (hm _ (by omega)).trans (h.tt x hx), h.tb, fun x hx k hk => (hm _ (by have := h.tb x hx; omega)).trans (h.ts x hx k hk), h.d4, (hm _ (by omega)).trans h.n3, h.b3, fun i hi c hc => (hm _ (by omega)).trans (h.a3 i hi c hc), fun i hi => (hm _ (by omega)).trans (h.l3 i hi), h.m3, fun i hi k hk => by have h50 := h.m3 i hi; exact (hm _ (by omega)).trans (h.g3 i hi k hk), h.tc⟩
theorem rcF_eq {na : Nat} {da : Nat → Int32} {LL : Nat → Nat} {LG : Nat → Nat → Int32} {np nf nr nt : Nat} {dp df dr ct : Nat → Int32} {pay fine : Int32} {T : Nat → Nat} {S : Nat → Nat → Int32} {s : Nat → Int32} {na' : Nat} {da' : Nat → Int32} {LL' : Nat → Nat} {LG' : Nat → Nat → Int32} {np' nf' nr' nt' : Nat} {dp' df' dr' ct' : Nat → Int32} {pay' fine' : Int32} {T' : Nat → Nat} {S' : Nat → Nat → Int32} {s' : Nat → Int32} (h : rcF na da LL LG np nf nr nt dp df dr ct pay fine T S s) (hm : ∀ k, k < 2246 → s' k = s k) (u0 : na' = na) (u1 : ∀ i, i < 60 → da' i = da i) (uT : ∀ z, z < 20 → LL' z = LL z) (uS : ∀ z, z < 20 → ∀ q, q < 50 → LG' z q = LG z q) (e0 : np' = np) (e1 : nf' = nf) (e2 : nr' = nr) (e3 : nt' = nt) (e4 : ∀ i, i < 120 → dp' i = dp i) (e5 : ∀ i, i < 120 → df' i = df i) (e6 : ∀ i, i < 12 → dr' i = dr i) (e7 : ∀ i, i < 700 → ct' i = ct i) (e8 : pay' = pay) (e9 : fine' = fine) (eT : ∀ z, z < 4 → T' z = T z) (eS : ∀ z, z < 4 → ∀ q, q < 50 → S' z q = S z q) : rcF na' da' LL' LG' np' nf' nr' nt' dp' df' dr' ct' pay' fine' T' S' s' := by
  have b3 := h.b3
  have b0 := h.b0
  have b1 := h.b1
  have b2 := h.b2
  have b4 := h.b4
  exact ⟨by rw [e0]; exact (hm _ (by omega)).trans h.n0, by rw [e1]; exact (hm _ (by omega)).trans h.n1, by rw [e2]; exact (hm _ (by omega)).trans h.n2, by rw [e3]; exact (hm _ (by omega)).trans h.n4, by omega, by omega, by omega, by omega, by rw [e8]; exact (hm _ (by omega)).trans h.p0, by rw [e9]; exact (hm _ (by omega)).trans h.p1, fun k hk => by rw [e4 k (by omega)]; exact (hm _ (by omega)).trans (h.e0 k (by omega)), fun k hk => by rw [e5 k (by omega)]; exact (hm _ (by omega)).trans (h.e1 k (by omega)), fun k hk => by rw [e6 k (by omega)]; exact (hm _ (by omega)).trans (h.e2 k (by omega)), fun t ht c hc => by rw [e7 _ (by omega)]; exact (hm _ (by omega)).trans (h.e4 t (by omega) c hc), fun t ht c hc => by rw [e7 _ (by omega)]; exact (hm _ (by omega)).trans (h.l4 t (by omega) c hc), fun k h1 h2 => by rw [e7 k h2]; exact h.z4 k (by omega) h2, fun x hx => by rw [eT x hx]; exact (hm _ (by omega)).trans (h.tt x hx), fun x hx => by rw [eT x hx]; exact h.tb x hx, fun x hx k hk => by have := h.tb x hx; rw [eT x hx] at hk; rw [eS x hx k (by omega)]; exact (hm _ (by omega)).trans (h.ts x hx k hk), fun t ht => by rw [e7 _ (by omega)]; exact h.d4 t (by omega), by rw [u0]; exact (hm _ (by omega)).trans h.n3, by omega, fun i hi c hc => by rw [u1 _ (by omega)]; exact (hm _ (by omega)).trans (h.a3 i (by omega) c hc), fun i hi => by rw [uT i (by omega)]; exact (hm _ (by omega)).trans (h.l3 i (by omega)), fun i hi => by rw [uT i (by omega)]; exact h.m3 i (by omega), fun i hi k hk => by have := h.m3 i (by omega); rw [uT i (by omega)] at hk; rw [uS i (by omega) k (by omega)]; exact (hm _ (by omega)).trans (h.g3 i (by omega) k hk), by rw [e3]; exact trC_congr h.tc h.b4 (fun i hi => e7 i hi)⟩
theorem nI_mul {a b : Nat} : nI a * nI b = nI (a * b) := (Int32.ofNat_mul a b).symm
theorem ixN {n w c : Nat} (h : w * n + c < 2 ^ 31) : Int32.toNatClampNeg (nI n * nI w + nI c) = w * n + c := by
  rw [nI_mul, nI_add, nI_clamp (by rw [Nat.mul_comm]; exact h), Nat.mul_comm]
theorem nI_inj {a b : Nat} (ha : a ≤ 50) (hb : b ≤ 50) (h : nI a = nI b) : a = b := (nI_eq (by omega) (by omega)).mp h
theorem atN {d : Nat → Int32} {n w i c : Nat} (hi : i < n) (hc : c < w) (hn : n < 100) (hw : w < 100) : atv d n w (nI i) (nI c) = d (w * i + c) := by
  have h1 : w * i < 100 * 100 := by
    have := Nat.mul_le_mul (show w ≤ 100 by omega) (show i ≤ 99 by omega)
    omega
  unfold atv
  rw [if_pos ⟨inN_n hi (by omega), inN_n hc (by omega)⟩, ixN (by omega)]
theorem rcF_person {na : Nat} {da : Nat → Int32} {LL : Nat → Nat} {LG : Nat → Nat → Int32} {np nf nr nt : Nat} {dp df dr ct : Nat → Int32} {pay fine : Int32} {T : Nat → Nat} {S : Nat → Nat → Int32} {s : Nat → Int32} {a1 a2 a3 a4 : Int32} (h : rcF na da LL LG np nf nr nt dp df dr ct pay fine T S s) (hn : np < 30) : rcF na da LL LG (np + 1) nf nr nt (upd (upd (upd (upd dp (Int32.toNatClampNeg (nI np * nI 4 + 0)) a1) (Int32.toNatClampNeg (nI np * nI 4 + 1)) a2) (Int32.toNatClampNeg (nI np * nI 4 + 2)) a3) (Int32.toNatClampNeg (nI np * nI 4 + 3)) a4) df dr ct pay fine T S (upd (upd (upd (upd (upd s (4 * np + 10) a1) (4 * np + 11) a2) (4 * np + 12) a3) (4 * np + 13) a4) 0 (nI (np + 1))) := by
  have b3 := h.b3
  have b0 := h.b0
  have b1 := h.b1
  have b2 := h.b2
  have b4 := h.b4
  rw [show Int32.toNatClampNeg (nI np * nI 4 + 0) = 4 * np + 0 from ixN (c := 0) (by omega)]
  rw [show Int32.toNatClampNeg (nI np * nI 4 + 1) = 4 * np + 1 from ixN (c := 1) (by omega)]
  rw [show Int32.toNatClampNeg (nI np * nI 4 + 2) = 4 * np + 2 from ixN (c := 2) (by omega)]
  rw [show Int32.toNatClampNeg (nI np * nI 4 + 3) = 4 * np + 3 from ixN (c := 3) (by omega)]
  have he : ∀ k, k < 4 * (np + 1) → (upd (upd (upd (upd (upd s (4 * np + 10) a1) (4 * np + 11) a2) (4 * np + 12) a3) (4 * np + 13) a4) 0 (nI (np + 1))) (k + 10) = (upd (upd (upd (upd dp (4 * np + 0) a1) (4 * np + 1) a2) (4 * np + 2) a3) (4 * np + 3) a4) k := by
    intro k hk
    by_cases hk2 : k < 4 * np
    · exact ((pk_un (by omega)).trans ((pk_un (by omega)).trans ((pk_un (by omega)).trans ((pk_un (by omega)).trans ((pk_un (by omega))))))).trans ((h.e0 k hk2).trans ((pk_un (by omega)).trans ((pk_un (by omega)).trans ((pk_un (by omega)).trans ((pk_un (by omega)))))).symm)
    · rcases (show k = 4 * np + 0 ∨ k = 4 * np + 1 ∨ k = 4 * np + 2 ∨ k = 4 * np + 3 by omega) with rfl | rfl | rfl | rfl
      · exact ((pk_un (by omega)).trans ((pk_un (by omega)).trans ((pk_un (by omega)).trans ((pk_un (by omega)).trans (by rw [show 4 * np + 0 + 10 = 4 * np + 10 by omega]; exact pk_us))))).trans ((pk_un (by omega)).trans ((pk_un (by omega)).trans ((pk_un (by omega)).trans (pk_us)))).symm
      · exact ((pk_un (by omega)).trans ((pk_un (by omega)).trans ((pk_un (by omega)).trans (by rw [show 4 * np + 1 + 10 = 4 * np + 11 by omega]; exact pk_us)))).trans ((pk_un (by omega)).trans ((pk_un (by omega)).trans (pk_us))).symm
      · exact ((pk_un (by omega)).trans ((pk_un (by omega)).trans (by rw [show 4 * np + 2 + 10 = 4 * np + 12 by omega]; exact pk_us))).trans ((pk_un (by omega)).trans (pk_us)).symm
      · exact ((pk_un (by omega)).trans (by rw [show 4 * np + 3 + 10 = 4 * np + 13 by omega]; exact pk_us)).trans (pk_us).symm
  exact ⟨pk_us, ((pk_un (by omega)).trans ((pk_un (by omega)).trans ((pk_un (by omega)).trans ((pk_un (by omega)).trans ((pk_un (by omega))))))).trans h.n1, ((pk_un (by omega)).trans ((pk_un (by omega)).trans ((pk_un (by omega)).trans ((pk_un (by omega)).trans ((pk_un (by omega))))))).trans h.n2, ((pk_un (by omega)).trans ((pk_un (by omega)).trans ((pk_un (by omega)).trans ((pk_un (by omega)).trans ((pk_un (by omega))))))).trans h.n4, by omega, h.b1, h.b2, h.b4, ((pk_un (by omega)).trans ((pk_un (by omega)).trans ((pk_un (by omega)).trans ((pk_un (by omega)).trans ((pk_un (by omega))))))).trans h.p0, ((pk_un (by omega)).trans ((pk_un (by omega)).trans ((pk_un (by omega)).trans ((pk_un (by omega)).trans ((pk_un (by omega))))))).trans h.p1, he, fun k hk => ((pk_un (by omega)).trans ((pk_un (by omega)).trans ((pk_un (by omega)).trans ((pk_un (by omega)).trans ((pk_un (by omega))))))).trans (h.e1 k hk), fun k hk => ((pk_un (by omega)).trans ((pk_un (by omega)).trans ((pk_un (by omega)).trans ((pk_un (by omega)).trans ((pk_un (by omega))))))).trans (h.e2 k hk), fun t ht c hc => ((pk_un (by omega)).trans ((pk_un (by omega)).trans ((pk_un (by omega)).trans ((pk_un (by omega)).trans ((pk_un (by omega))))))).trans (h.e4 t ht c hc), fun t ht c hc => ((pk_un (by omega)).trans ((pk_un (by omega)).trans ((pk_un (by omega)).trans ((pk_un (by omega)).trans ((pk_un (by omega))))))).trans (h.l4 t ht c hc), h.z4, fun x hx => ((pk_un (by omega)).trans ((pk_un (by omega)).trans ((pk_un (by omega)).trans ((pk_un (by omega)).trans ((pk_un (by omega))))))).trans (h.tt x hx), h.tb, fun x hx k hk => by have := h.tb x hx; exact ((pk_un (by omega)).trans ((pk_un (by omega)).trans ((pk_un (by omega)).trans ((pk_un (by omega)).trans ((pk_un (by omega))))))).trans (h.ts x hx k hk), h.d4, ((pk_un (by omega)).trans ((pk_un (by omega)).trans ((pk_un (by omega)).trans ((pk_un (by omega)).trans ((pk_un (by omega))))))).trans h.n3, h.b3, fun i hi c hc => ((pk_un (by omega)).trans ((pk_un (by omega)).trans ((pk_un (by omega)).trans ((pk_un (by omega)).trans ((pk_un (by omega))))))).trans (h.a3 i hi c hc), fun i hi => ((pk_un (by omega)).trans ((pk_un (by omega)).trans ((pk_un (by omega)).trans ((pk_un (by omega)).trans ((pk_un (by omega))))))).trans (h.l3 i hi), h.m3, fun i hi k hk => by have h50 := h.m3 i hi; exact ((pk_un (by omega)).trans ((pk_un (by omega)).trans ((pk_un (by omega)).trans ((pk_un (by omega)).trans ((pk_un (by omega))))))).trans (h.g3 i hi k hk), h.tc⟩
theorem rF_person {na : Nat} {da : Nat → Int32} {LL : Nat → Nat} {LG : Nat → Nat → Int32} {np nf nr nt : Nat} {dp df dr ct : Nat → Int32} {pay fine : Int32} {T : Nat → Nat} {S : Nat → Nat → Int32} {s : Nat → Int32} {np9 nf9 nr9 na9 nt9 : Nat} {np' : Nat} {dp' s' : Nat → Int32} {z z' a1 a2 a3 a4 : Int32} (h : rcF na da LL LG np nf nr nt dp df dr ct pay fine T S s) (hs : stOK s np9 nf9 nr9 na9 nt9)
    (hc : (¬ (inB 0 a1 3 = true ∧ inB 0 a2 3 = true ∧ inB 0 a3 1000 = true ∧ inB 0 a4 99 = true) ∧ z = -2 ∧ np' = np ∧ dp' = dp) ∨ ((inB 0 a1 3 = true ∧ inB 0 a2 3 = true ∧ inB 0 a3 1000 = true ∧ inB 0 a4 99 = true) ∧ ¬ np < 30 ∧ z = -4 ∧ np' = np ∧ dp' = dp) ∨ ((inB 0 a1 3 = true ∧ inB 0 a2 3 = true ∧ inB 0 a3 1000 = true ∧ inB 0 a4 99 = true) ∧ np < 30 ∧ z = nI np ∧ np' = np + 1 ∧ dp' = upd (upd (upd (upd dp (Int32.toNatClampNeg (nI np * nI 4 + 0)) a1) (Int32.toNatClampNeg (nI np * nI 4 + 1)) a2) (Int32.toNatClampNeg (nI np * nI 4 + 2)) a3) (Int32.toNatClampNeg (nI np * nI 4 + 3)) a4))
    (hm : (¬ (inB 0 a1 3 = true ∧ inB 0 a2 3 = true ∧ inB 0 a3 1000 = true ∧ inB 0 a4 99 = true) ∧ z' = -2 ∧ s' = s) ∨ ((inB 0 a1 3 = true ∧ inB 0 a2 3 = true ∧ inB 0 a3 1000 = true ∧ inB 0 a4 99 = true) ∧ np9 = 30 ∧ z' = -4 ∧ s' = s) ∨ ((inB 0 a1 3 = true ∧ inB 0 a2 3 = true ∧ inB 0 a3 1000 = true ∧ inB 0 a4 99 = true) ∧ np9 < 30 ∧ z' = nI np9 ∧ s' = upd (upd (upd (upd (upd s (4 * np9 + 10) a1) (4 * np9 + 11) a2) (4 * np9 + 12) a3) (4 * np9 + 13) a4) 0 (nI (np9 + 1)))) : z = z' ∧ rcF na da LL LG np' nf nr nt dp' df dr ct pay fine T S s' := by
  have b3 := h.b3
  have b0 := h.b0
  have b1 := h.b1
  have b2 := h.b2
  have b4 := h.b4
  obtain rfl : np = np9 := nI_inj (by omega) (by have := hs.c0; omega) (h.n0.symm.trans hs.h0)
  obtain rfl : nf = nf9 := nI_inj (by omega) (by have := hs.c1; omega) (h.n1.symm.trans hs.h1)
  obtain rfl : nr = nr9 := nI_inj (by omega) (by have := hs.c2; omega) (h.n2.symm.trans hs.h2)
  obtain rfl : na = na9 := nI_inj (by omega) (by have := hs.c3; omega) (h.n3.symm.trans hs.h3)
  obtain rfl : nt = nt9 := nI_inj (by omega) (by have := hs.c4; omega) (h.n4.symm.trans hs.h4)
  have ok : (inB 0 a1 3 = true ∧ inB 0 a2 3 = true ∧ inB 0 a3 1000 = true ∧ inB 0 a4 99 = true) ↔ (inB 0 a1 3 = true ∧ inB 0 a2 3 = true ∧ inB 0 a3 1000 = true ∧ inB 0 a4 99 = true) := Iff.rfl
  rcases hc with ⟨c1, c2, c3, c4⟩ | ⟨c1, c0, c2, c3, c4⟩ | ⟨c1, c0, c2, c3, c4⟩
  · rcases hm with ⟨m1, m2, m3⟩ | ⟨m1, _⟩ | ⟨m1, _⟩
    · rw [c2, m2, c3, c4, m3]; exact ⟨rfl, h⟩
    · exact absurd (ok.mpr m1) c1
    · exact absurd (ok.mpr m1) c1
  · rcases hm with ⟨m1, _⟩ | ⟨m1, m0, m2, m3⟩ | ⟨m1, m0, _⟩
    · exact absurd (ok.mp c1) m1
    · rw [c2, m2, c3, c4, m3]; exact ⟨rfl, h⟩
    · exact absurd m0 c0
  · rcases hm with ⟨m1, _⟩ | ⟨m1, m0, _⟩ | ⟨m1, m0, m2, m3⟩
    · exact absurd (ok.mp c1) m1
    · omega
    · rw [c2, m2, c3, c4, m3]; exact ⟨rfl, rcF_person h c0⟩
theorem rcF_kin {na : Nat} {da : Nat → Int32} {LL : Nat → Nat} {LG : Nat → Nat → Int32} {np nf nr nt : Nat} {dp df dr ct : Nat → Int32} {pay fine : Int32} {T : Nat → Nat} {S : Nat → Nat → Int32} {s : Nat → Int32} {a1 a2 a3 : Int32} (h : rcF na da LL LG np nf nr nt dp df dr ct pay fine T S s) (hn : nf < 40) : rcF na da LL LG np (nf + 1) nr nt dp (upd (upd (upd df (Int32.toNatClampNeg (nI nf * nI 3 + 0)) a1) (Int32.toNatClampNeg (nI nf * nI 3 + 1)) a2) (Int32.toNatClampNeg (nI nf * nI 3 + 2)) a3) dr ct pay fine T S (upd (upd (upd (upd s (3 * nf + 130) a1) (3 * nf + 131) a2) (3 * nf + 132) a3) 1 (nI (nf + 1))) := by
  have b3 := h.b3
  have b0 := h.b0
  have b1 := h.b1
  have b2 := h.b2
  have b4 := h.b4
  rw [show Int32.toNatClampNeg (nI nf * nI 3 + 0) = 3 * nf + 0 from ixN (c := 0) (by omega)]
  rw [show Int32.toNatClampNeg (nI nf * nI 3 + 1) = 3 * nf + 1 from ixN (c := 1) (by omega)]
  rw [show Int32.toNatClampNeg (nI nf * nI 3 + 2) = 3 * nf + 2 from ixN (c := 2) (by omega)]
  have he : ∀ k, k < 3 * (nf + 1) → (upd (upd (upd (upd s (3 * nf + 130) a1) (3 * nf + 131) a2) (3 * nf + 132) a3) 1 (nI (nf + 1))) (k + 130) = (upd (upd (upd df (3 * nf + 0) a1) (3 * nf + 1) a2) (3 * nf + 2) a3) k := by
    intro k hk
    by_cases hk2 : k < 3 * nf
    · exact ((pk_un (by omega)).trans ((pk_un (by omega)).trans ((pk_un (by omega)).trans ((pk_un (by omega)))))).trans ((h.e1 k hk2).trans ((pk_un (by omega)).trans ((pk_un (by omega)).trans ((pk_un (by omega))))).symm)
    · rcases (show k = 3 * nf + 0 ∨ k = 3 * nf + 1 ∨ k = 3 * nf + 2 by omega) with rfl | rfl | rfl
      · exact ((pk_un (by omega)).trans ((pk_un (by omega)).trans ((pk_un (by omega)).trans (by rw [show 3 * nf + 0 + 130 = 3 * nf + 130 by omega]; exact pk_us)))).trans ((pk_un (by omega)).trans ((pk_un (by omega)).trans (pk_us))).symm
      · exact ((pk_un (by omega)).trans ((pk_un (by omega)).trans (by rw [show 3 * nf + 1 + 130 = 3 * nf + 131 by omega]; exact pk_us))).trans ((pk_un (by omega)).trans (pk_us)).symm
      · exact ((pk_un (by omega)).trans (by rw [show 3 * nf + 2 + 130 = 3 * nf + 132 by omega]; exact pk_us)).trans (pk_us).symm
  exact ⟨((pk_un (by omega)).trans ((pk_un (by omega)).trans ((pk_un (by omega)).trans ((pk_un (by omega)))))).trans h.n0, pk_us, ((pk_un (by omega)).trans ((pk_un (by omega)).trans ((pk_un (by omega)).trans ((pk_un (by omega)))))).trans h.n2, ((pk_un (by omega)).trans ((pk_un (by omega)).trans ((pk_un (by omega)).trans ((pk_un (by omega)))))).trans h.n4, h.b0, by omega, h.b2, h.b4, ((pk_un (by omega)).trans ((pk_un (by omega)).trans ((pk_un (by omega)).trans ((pk_un (by omega)))))).trans h.p0, ((pk_un (by omega)).trans ((pk_un (by omega)).trans ((pk_un (by omega)).trans ((pk_un (by omega)))))).trans h.p1, fun k hk => ((pk_un (by omega)).trans ((pk_un (by omega)).trans ((pk_un (by omega)).trans ((pk_un (by omega)))))).trans (h.e0 k hk), he, fun k hk => ((pk_un (by omega)).trans ((pk_un (by omega)).trans ((pk_un (by omega)).trans ((pk_un (by omega)))))).trans (h.e2 k hk), fun t ht c hc => ((pk_un (by omega)).trans ((pk_un (by omega)).trans ((pk_un (by omega)).trans ((pk_un (by omega)))))).trans (h.e4 t ht c hc), fun t ht c hc => ((pk_un (by omega)).trans ((pk_un (by omega)).trans ((pk_un (by omega)).trans ((pk_un (by omega)))))).trans (h.l4 t ht c hc), h.z4, fun x hx => ((pk_un (by omega)).trans ((pk_un (by omega)).trans ((pk_un (by omega)).trans ((pk_un (by omega)))))).trans (h.tt x hx), h.tb, fun x hx k hk => by have := h.tb x hx; exact ((pk_un (by omega)).trans ((pk_un (by omega)).trans ((pk_un (by omega)).trans ((pk_un (by omega)))))).trans (h.ts x hx k hk), h.d4, ((pk_un (by omega)).trans ((pk_un (by omega)).trans ((pk_un (by omega)).trans ((pk_un (by omega)))))).trans h.n3, h.b3, fun i hi c hc => ((pk_un (by omega)).trans ((pk_un (by omega)).trans ((pk_un (by omega)).trans ((pk_un (by omega)))))).trans (h.a3 i hi c hc), fun i hi => ((pk_un (by omega)).trans ((pk_un (by omega)).trans ((pk_un (by omega)).trans ((pk_un (by omega)))))).trans (h.l3 i hi), h.m3, fun i hi k hk => by have h50 := h.m3 i hi; exact ((pk_un (by omega)).trans ((pk_un (by omega)).trans ((pk_un (by omega)).trans ((pk_un (by omega)))))).trans (h.g3 i hi k hk), h.tc⟩
theorem rF_kin {na : Nat} {da : Nat → Int32} {LL : Nat → Nat} {LG : Nat → Nat → Int32} {np nf nr nt : Nat} {dp df dr ct : Nat → Int32} {pay fine : Int32} {T : Nat → Nat} {S : Nat → Nat → Int32} {s : Nat → Int32} {np9 nf9 nr9 na9 nt9 : Nat} {nf' : Nat} {df' s' : Nat → Int32} {z z' a1 a2 a3 : Int32} (h : rcF na da LL LG np nf nr nt dp df dr ct pay fine T S s) (hs : stOK s np9 nf9 nr9 na9 nt9)
    (hc : (¬ (inN a1 np = true ∧ inB 0 a2 9 = true ∧ inB 0 a3 9999 = true) ∧ z = -2 ∧ nf' = nf ∧ df' = df) ∨ ((inN a1 np = true ∧ inB 0 a2 9 = true ∧ inB 0 a3 9999 = true) ∧ ¬ nf < 40 ∧ z = -4 ∧ nf' = nf ∧ df' = df) ∨ ((inN a1 np = true ∧ inB 0 a2 9 = true ∧ inB 0 a3 9999 = true) ∧ nf < 40 ∧ z = nI nf ∧ nf' = nf + 1 ∧ df' = upd (upd (upd df (Int32.toNatClampNeg (nI nf * nI 3 + 0)) a1) (Int32.toNatClampNeg (nI nf * nI 3 + 1)) a2) (Int32.toNatClampNeg (nI nf * nI 3 + 2)) a3))
    (hm : (¬ (inN a1 np9 = true ∧ inB 0 a2 9 = true ∧ inB 0 a3 9999 = true) ∧ z' = -2 ∧ s' = s) ∨ ((inN a1 np9 = true ∧ inB 0 a2 9 = true ∧ inB 0 a3 9999 = true) ∧ nf9 = 40 ∧ z' = -4 ∧ s' = s) ∨ ((inN a1 np9 = true ∧ inB 0 a2 9 = true ∧ inB 0 a3 9999 = true) ∧ nf9 < 40 ∧ z' = nI nf9 ∧ s' = upd (upd (upd (upd s (3 * nf9 + 130) a1) (3 * nf9 + 131) a2) (3 * nf9 + 132) a3) 1 (nI (nf9 + 1)))) : z = z' ∧ rcF na da LL LG np nf' nr nt dp df' dr ct pay fine T S s' := by
  have b3 := h.b3
  have b0 := h.b0
  have b1 := h.b1
  have b2 := h.b2
  have b4 := h.b4
  obtain rfl : np = np9 := nI_inj (by omega) (by have := hs.c0; omega) (h.n0.symm.trans hs.h0)
  obtain rfl : nf = nf9 := nI_inj (by omega) (by have := hs.c1; omega) (h.n1.symm.trans hs.h1)
  obtain rfl : nr = nr9 := nI_inj (by omega) (by have := hs.c2; omega) (h.n2.symm.trans hs.h2)
  obtain rfl : na = na9 := nI_inj (by omega) (by have := hs.c3; omega) (h.n3.symm.trans hs.h3)
  obtain rfl : nt = nt9 := nI_inj (by omega) (by have := hs.c4; omega) (h.n4.symm.trans hs.h4)
  have ok : (inN a1 np = true ∧ inB 0 a2 9 = true ∧ inB 0 a3 9999 = true) ↔ (inN a1 np = true ∧ inB 0 a2 9 = true ∧ inB 0 a3 9999 = true) := Iff.rfl
  rcases hc with ⟨c1, c2, c3, c4⟩ | ⟨c1, c0, c2, c3, c4⟩ | ⟨c1, c0, c2, c3, c4⟩
  · rcases hm with ⟨m1, m2, m3⟩ | ⟨m1, _⟩ | ⟨m1, _⟩
    · rw [c2, m2, c3, c4, m3]; exact ⟨rfl, h⟩
    · exact absurd (ok.mpr m1) c1
    · exact absurd (ok.mpr m1) c1
  · rcases hm with ⟨m1, _⟩ | ⟨m1, m0, m2, m3⟩ | ⟨m1, m0, _⟩
    · exact absurd (ok.mp c1) m1
    · rw [c2, m2, c3, c4, m3]; exact ⟨rfl, h⟩
    · exact absurd m0 c0
  · rcases hm with ⟨m1, _⟩ | ⟨m1, m0, _⟩ | ⟨m1, m0, m2, m3⟩
    · exact absurd (ok.mp c1) m1
    · omega
    · rw [c2, m2, c3, c4, m3]; exact ⟨rfl, rcF_kin h c0⟩
theorem rcF_roll {na : Nat} {da : Nat → Int32} {LL : Nat → Nat} {LG : Nat → Nat → Int32} {np nf nr nt : Nat} {dp df dr ct : Nat → Int32} {pay fine : Int32} {T : Nat → Nat} {S : Nat → Nat → Int32} {s : Nat → Int32} {a1 a2 a3 : Int32} (h : rcF na da LL LG np nf nr nt dp df dr ct pay fine T S s) (hn : nr < 4) : rcF na da LL LG np nf (nr + 1) nt dp df (upd (upd (upd dr (Int32.toNatClampNeg (nI nr * nI 3 + 0)) a1) (Int32.toNatClampNeg (nI nr * nI 3 + 1)) a2) (Int32.toNatClampNeg (nI nr * nI 3 + 2)) a3) ct pay fine T S (upd (upd (upd (upd s (3 * nr + 250) a1) (3 * nr + 251) a2) (3 * nr + 252) a3) 2 (nI (nr + 1))) := by
  have b3 := h.b3
  have b0 := h.b0
  have b1 := h.b1
  have b2 := h.b2
  have b4 := h.b4
  rw [show Int32.toNatClampNeg (nI nr * nI 3 + 0) = 3 * nr + 0 from ixN (c := 0) (by omega)]
  rw [show Int32.toNatClampNeg (nI nr * nI 3 + 1) = 3 * nr + 1 from ixN (c := 1) (by omega)]
  rw [show Int32.toNatClampNeg (nI nr * nI 3 + 2) = 3 * nr + 2 from ixN (c := 2) (by omega)]
  have he : ∀ k, k < 3 * (nr + 1) → (upd (upd (upd (upd s (3 * nr + 250) a1) (3 * nr + 251) a2) (3 * nr + 252) a3) 2 (nI (nr + 1))) (k + 250) = (upd (upd (upd dr (3 * nr + 0) a1) (3 * nr + 1) a2) (3 * nr + 2) a3) k := by
    intro k hk
    by_cases hk2 : k < 3 * nr
    · exact ((pk_un (by omega)).trans ((pk_un (by omega)).trans ((pk_un (by omega)).trans ((pk_un (by omega)))))).trans ((h.e2 k hk2).trans ((pk_un (by omega)).trans ((pk_un (by omega)).trans ((pk_un (by omega))))).symm)
    · rcases (show k = 3 * nr + 0 ∨ k = 3 * nr + 1 ∨ k = 3 * nr + 2 by omega) with rfl | rfl | rfl
      · exact ((pk_un (by omega)).trans ((pk_un (by omega)).trans ((pk_un (by omega)).trans (by rw [show 3 * nr + 0 + 250 = 3 * nr + 250 by omega]; exact pk_us)))).trans ((pk_un (by omega)).trans ((pk_un (by omega)).trans (pk_us))).symm
      · exact ((pk_un (by omega)).trans ((pk_un (by omega)).trans (by rw [show 3 * nr + 1 + 250 = 3 * nr + 251 by omega]; exact pk_us))).trans ((pk_un (by omega)).trans (pk_us)).symm
      · exact ((pk_un (by omega)).trans (by rw [show 3 * nr + 2 + 250 = 3 * nr + 252 by omega]; exact pk_us)).trans (pk_us).symm
  exact ⟨((pk_un (by omega)).trans ((pk_un (by omega)).trans ((pk_un (by omega)).trans ((pk_un (by omega)))))).trans h.n0, ((pk_un (by omega)).trans ((pk_un (by omega)).trans ((pk_un (by omega)).trans ((pk_un (by omega)))))).trans h.n1, pk_us, ((pk_un (by omega)).trans ((pk_un (by omega)).trans ((pk_un (by omega)).trans ((pk_un (by omega)))))).trans h.n4, h.b0, h.b1, by omega, h.b4, ((pk_un (by omega)).trans ((pk_un (by omega)).trans ((pk_un (by omega)).trans ((pk_un (by omega)))))).trans h.p0, ((pk_un (by omega)).trans ((pk_un (by omega)).trans ((pk_un (by omega)).trans ((pk_un (by omega)))))).trans h.p1, fun k hk => ((pk_un (by omega)).trans ((pk_un (by omega)).trans ((pk_un (by omega)).trans ((pk_un (by omega)))))).trans (h.e0 k hk), fun k hk => ((pk_un (by omega)).trans ((pk_un (by omega)).trans ((pk_un (by omega)).trans ((pk_un (by omega)))))).trans (h.e1 k hk), he, fun t ht c hc => ((pk_un (by omega)).trans ((pk_un (by omega)).trans ((pk_un (by omega)).trans ((pk_un (by omega)))))).trans (h.e4 t ht c hc), fun t ht c hc => ((pk_un (by omega)).trans ((pk_un (by omega)).trans ((pk_un (by omega)).trans ((pk_un (by omega)))))).trans (h.l4 t ht c hc), h.z4, fun x hx => ((pk_un (by omega)).trans ((pk_un (by omega)).trans ((pk_un (by omega)).trans ((pk_un (by omega)))))).trans (h.tt x hx), h.tb, fun x hx k hk => by have := h.tb x hx; exact ((pk_un (by omega)).trans ((pk_un (by omega)).trans ((pk_un (by omega)).trans ((pk_un (by omega)))))).trans (h.ts x hx k hk), h.d4, ((pk_un (by omega)).trans ((pk_un (by omega)).trans ((pk_un (by omega)).trans ((pk_un (by omega)))))).trans h.n3, h.b3, fun i hi c hc => ((pk_un (by omega)).trans ((pk_un (by omega)).trans ((pk_un (by omega)).trans ((pk_un (by omega)))))).trans (h.a3 i hi c hc), fun i hi => ((pk_un (by omega)).trans ((pk_un (by omega)).trans ((pk_un (by omega)).trans ((pk_un (by omega)))))).trans (h.l3 i hi), h.m3, fun i hi k hk => by have h50 := h.m3 i hi; exact ((pk_un (by omega)).trans ((pk_un (by omega)).trans ((pk_un (by omega)).trans ((pk_un (by omega)))))).trans (h.g3 i hi k hk), h.tc⟩
theorem rF_roll {na : Nat} {da : Nat → Int32} {LL : Nat → Nat} {LG : Nat → Nat → Int32} {np nf nr nt : Nat} {dp df dr ct : Nat → Int32} {pay fine : Int32} {T : Nat → Nat} {S : Nat → Nat → Int32} {s : Nat → Int32} {np9 nf9 nr9 na9 nt9 : Nat} {nr' : Nat} {dr' s' : Nat → Int32} {z z' a1 a2 a3 : Int32} (h : rcF na da LL LG np nf nr nt dp df dr ct pay fine T S s) (hs : stOK s np9 nf9 nr9 na9 nt9)
    (hc : (¬ (a1 &&& (((1 <<< (nI np &&& 31)) - 1) ^^^ (-1)) = 0 ∧ inB 0 a2 199 = true ∧ inB 0 a3 9999 = true) ∧ z = -2 ∧ nr' = nr ∧ dr' = dr) ∨ ((a1 &&& (((1 <<< (nI np &&& 31)) - 1) ^^^ (-1)) = 0 ∧ inB 0 a2 199 = true ∧ inB 0 a3 9999 = true) ∧ ¬ nr < 4 ∧ z = -4 ∧ nr' = nr ∧ dr' = dr) ∨ ((a1 &&& (((1 <<< (nI np &&& 31)) - 1) ^^^ (-1)) = 0 ∧ inB 0 a2 199 = true ∧ inB 0 a3 9999 = true) ∧ nr < 4 ∧ z = nI nr ∧ nr' = nr + 1 ∧ dr' = upd (upd (upd dr (Int32.toNatClampNeg (nI nr * nI 3 + 0)) a1) (Int32.toNatClampNeg (nI nr * nI 3 + 1)) a2) (Int32.toNatClampNeg (nI nr * nI 3 + 2)) a3))
    (hm : (¬ (inB 0 a1 ((1 <<< (nI np9 &&& 31)) - 1) = true ∧ inB 0 a2 199 = true ∧ inB 0 a3 9999 = true) ∧ z' = -2 ∧ s' = s) ∨ ((inB 0 a1 ((1 <<< (nI np9 &&& 31)) - 1) = true ∧ inB 0 a2 199 = true ∧ inB 0 a3 9999 = true) ∧ nr9 = 4 ∧ z' = -4 ∧ s' = s) ∨ ((inB 0 a1 ((1 <<< (nI np9 &&& 31)) - 1) = true ∧ inB 0 a2 199 = true ∧ inB 0 a3 9999 = true) ∧ nr9 < 4 ∧ z' = nI nr9 ∧ s' = upd (upd (upd (upd s (3 * nr9 + 250) a1) (3 * nr9 + 251) a2) (3 * nr9 + 252) a3) 2 (nI (nr9 + 1)))) : z = z' ∧ rcF na da LL LG np nf nr' nt dp df dr' ct pay fine T S s' := by
  have b3 := h.b3
  have b0 := h.b0
  have b1 := h.b1
  have b2 := h.b2
  have b4 := h.b4
  obtain rfl : np = np9 := nI_inj (by omega) (by have := hs.c0; omega) (h.n0.symm.trans hs.h0)
  obtain rfl : nf = nf9 := nI_inj (by omega) (by have := hs.c1; omega) (h.n1.symm.trans hs.h1)
  obtain rfl : nr = nr9 := nI_inj (by omega) (by have := hs.c2; omega) (h.n2.symm.trans hs.h2)
  obtain rfl : na = na9 := nI_inj (by omega) (by have := hs.c3; omega) (h.n3.symm.trans hs.h3)
  obtain rfl : nt = nt9 := nI_inj (by omega) (by have := hs.c4; omega) (h.n4.symm.trans hs.h4)
  have ok : (a1 &&& (((1 <<< (nI np &&& 31)) - 1) ^^^ (-1)) = 0 ∧ inB 0 a2 199 = true ∧ inB 0 a3 9999 = true) ↔ (inB 0 a1 ((1 <<< (nI np &&& 31)) - 1) = true ∧ inB 0 a2 199 = true ∧ inB 0 a3 9999 = true) := and_congr ((bt_out (by omega)).trans (bt_in (by omega)).symm) Iff.rfl
  rcases hc with ⟨c1, c2, c3, c4⟩ | ⟨c1, c0, c2, c3, c4⟩ | ⟨c1, c0, c2, c3, c4⟩
  · rcases hm with ⟨m1, m2, m3⟩ | ⟨m1, _⟩ | ⟨m1, _⟩
    · rw [c2, m2, c3, c4, m3]; exact ⟨rfl, h⟩
    · exact absurd (ok.mpr m1) c1
    · exact absurd (ok.mpr m1) c1
  · rcases hm with ⟨m1, _⟩ | ⟨m1, m0, m2, m3⟩ | ⟨m1, m0, _⟩
    · exact absurd (ok.mp c1) m1
    · rw [c2, m2, c3, c4, m3]; exact ⟨rfl, h⟩
    · exact absurd m0 c0
  · rcases hm with ⟨m1, _⟩ | ⟨m1, m0, _⟩ | ⟨m1, m0, m2, m3⟩
    · exact absurd (ok.mp c1) m1
    · omega
    · rw [c2, m2, c3, c4, m3]; exact ⟨rfl, rcF_roll h c0⟩
theorem nd_iff {na : Nat} {da : Nat → Int32} {LL : Nat → Nat} {LG : Nat → Nat → Int32} {np nf nr nt : Nat} {dp df dr ct : Nat → Int32} {pay fine : Int32} {T : Nat → Nat} {S : Nat → Nat → Int32} {s : Nat → Int32} {a1 : Int32} (h : rcF na da LL LG np nf nr nt dp df dr ct pay fine T S s) : ndB ct nt a1 = true ↔ inB (frS s nt) a1 9999 = true := by
  unfold ndB
  rw [decide_eq_true_iff]
  by_cases h0 : nt = 0
  · rw [show frS s nt = 0 from if_pos h0]
    exact ⟨fun q => q.1, fun q => ⟨q, Or.inl h0⟩⟩
  · have b4 := h.b4
    have hd := h.d4 (nt - 1) (by omega)
    rw [show frS s nt = s (10 * (nt - 1) + 0 + 1546) from if_neg h0, h.e4 (nt - 1) (by omega) 0 (by omega), Nat.add_zero]
    rw [show nI nt - 1 = nI (nt - 1) from (by obtain ⟨m, e⟩ : ∃ m, nt = m + 1 := ⟨nt - 1, by omega⟩; rw [e]; exact nI_pred m), show (0 : Int32) = nI 0 from rfl, atN (by omega) (by omega) (by omega) (by omega), Nat.add_zero]
    constructor
    · intro ⟨q1, q2⟩
      have q3 := of_decide_eq_true q1
      rcases q2 with q2 | q2
      · exact absurd q2 h0
      · exact decide_eq_true ⟨Int32.not_lt.mp q2, q3.2⟩
    · intro q
      have q3 := of_decide_eq_true q
      exact ⟨decide_eq_true ⟨Int32.le_trans hd q3.1, q3.2⟩, Or.inr (Int32.not_lt.mpr q3.1)⟩
theorem nd_ol {ct : Nat → Int32} {nt : Nat} {a1 : Int32} (b4 : nt ≤ 10) (h : ndB ct nt a1 = true) : nt = 0 ∨ ¬ a1 < ct (70 * (nt - 1) + 0) := by
  have h2 := (of_decide_eq_true h).2
  by_cases h0 : nt = 0
  · exact Or.inl h0
  · rw [show nI nt - 1 = nI (nt - 1) from (by obtain ⟨m, e⟩ : ∃ m, nt = m + 1 := ⟨nt - 1, by omega⟩; rw [e]; exact nI_pred m), show (0 : Int32) = nI 0 from rfl, atN (by omega) (by omega) (by omega) (by omega)] at h2
    exact h2
theorem rcF_trial {na : Nat} {da : Nat → Int32} {LL : Nat → Nat} {LG : Nat → Nat → Int32} {np nf nr nt : Nat} {dp df dr ct : Nat → Int32} {pay fine : Int32} {T : Nat → Nat} {S : Nat → Nat → Int32} {s : Nat → Int32} {a1 a2 a3 a4 a5 a6 a7 a8 a9 : Int32} {s5 : Nat → Int32} (h : rcF na da LL LG np nf nr nt dp df dr ct pay fine T S s) (hn : nt < 10) (ha : 0 ≤ a1) (h5 : ∀ j, j < 1646 → s5 j = (upd (upd (upd (upd (upd (upd (upd (upd (upd (upd s (10 * nt + 1546) a1) (10 * nt + 1547) a2) (10 * nt + 1548) a3) (10 * nt + 1549) a4) (10 * nt + 1550) a5) (10 * nt + 1551) a6) (10 * nt + 1552) a7) (10 * nt + 1553) a8) (10 * nt + 1554) a9) (10 * nt + 1555) 0) j) (h6 : ∀ j, 1646 ≤ j → (j < 60 * nt + 1646 ∨ 60 + 60 * nt + 1646 ≤ j) → s5 j = (upd (upd (upd (upd (upd (upd (upd (upd (upd (upd s (10 * nt + 1546) a1) (10 * nt + 1547) a2) (10 * nt + 1548) a3) (10 * nt + 1549) a4) (10 * nt + 1550) a5) (10 * nt + 1551) a6) (10 * nt + 1552) a7) (10 * nt + 1553) a8) (10 * nt + 1554) a9) (10 * nt + 1555) 0) j) (h7 : ∀ q, q < 60 → s5 (q + 60 * nt + 1646) = 0) (hok : ndB ct nt a1 = true ∧ inB 1 a2 9 = true ∧ inB 1 a3 8 = true ∧ inB (-1) a4 9 = true ∧ inB (-1) a5 9 = true ∧ inB (-1) a6 3 = true ∧ inB 0 a7 4 = true ∧ inB 1 a9 24 = true) : rcF na da LL LG np nf nr (nt + 1) dp df dr (upd (upd (upd (upd (upd (upd (upd (upd (upd ct (Int32.toNatClampNeg (nI nt * nI 70 + 0)) a1) (Int32.toNatClampNeg (nI nt * nI 70 + 1)) a2) (Int32.toNatClampNeg (nI nt * nI 70 + 2)) a3) (Int32.toNatClampNeg (nI nt * nI 70 + 3)) a4) (Int32.toNatClampNeg (nI nt * nI 70 + 4)) a5) (Int32.toNatClampNeg (nI nt * nI 70 + 5)) a6) (Int32.toNatClampNeg (nI nt * nI 70 + 6)) a7) (Int32.toNatClampNeg (nI nt * nI 70 + 7)) a8) (Int32.toNatClampNeg (nI nt * nI 70 + 8)) a9) pay fine T S (upd s5 4 (nI (nt + 1))) := by
  have b3 := h.b3
  have b0 := h.b0
  have b1 := h.b1
  have b2 := h.b2
  have b4 := h.b4
  rw [show Int32.toNatClampNeg (nI nt * nI 70 + 0) = 70 * nt + 0 from ixN (c := 0) (by omega)]
  rw [show Int32.toNatClampNeg (nI nt * nI 70 + 1) = 70 * nt + 1 from ixN (c := 1) (by omega)]
  rw [show Int32.toNatClampNeg (nI nt * nI 70 + 2) = 70 * nt + 2 from ixN (c := 2) (by omega)]
  rw [show Int32.toNatClampNeg (nI nt * nI 70 + 3) = 70 * nt + 3 from ixN (c := 3) (by omega)]
  rw [show Int32.toNatClampNeg (nI nt * nI 70 + 4) = 70 * nt + 4 from ixN (c := 4) (by omega)]
  rw [show Int32.toNatClampNeg (nI nt * nI 70 + 5) = 70 * nt + 5 from ixN (c := 5) (by omega)]
  rw [show Int32.toNatClampNeg (nI nt * nI 70 + 6) = 70 * nt + 6 from ixN (c := 6) (by omega)]
  rw [show Int32.toNatClampNeg (nI nt * nI 70 + 7) = 70 * nt + 7 from ixN (c := 7) (by omega)]
  rw [show Int32.toNatClampNeg (nI nt * nI 70 + 8) = 70 * nt + 8 from ixN (c := 8) (by omega)]
  have lo : ∀ j, j < 1546 + 10 * nt → s5 j = s j := fun j hj => (h5 j (by omega)).trans ((pk_un (by omega)).trans ((pk_un (by omega)).trans ((pk_un (by omega)).trans ((pk_un (by omega)).trans ((pk_un (by omega)).trans ((pk_un (by omega)).trans ((pk_un (by omega)).trans ((pk_un (by omega)).trans ((pk_un (by omega)).trans ((pk_un (by omega))))))))))))
  have un : ∀ k, (k < 70 * nt ∨ 70 * nt + 9 ≤ k) → (upd (upd (upd (upd (upd (upd (upd (upd (upd ct (70 * nt + 0) a1) (70 * nt + 1) a2) (70 * nt + 2) a3) (70 * nt + 3) a4) (70 * nt + 4) a5) (70 * nt + 5) a6) (70 * nt + 6) a7) (70 * nt + 7) a8) (70 * nt + 8) a9) k = ct k := fun k hk => (pk_un (by omega)).trans ((pk_un (by omega)).trans ((pk_un (by omega)).trans ((pk_un (by omega)).trans ((pk_un (by omega)).trans ((pk_un (by omega)).trans ((pk_un (by omega)).trans ((pk_un (by omega)).trans ((pk_un (by omega))))))))))
  have he : ∀ c, c < 10 → s5 (10 * nt + c + 1546) = (upd (upd (upd (upd (upd (upd (upd (upd (upd ct (70 * nt + 0) a1) (70 * nt + 1) a2) (70 * nt + 2) a3) (70 * nt + 3) a4) (70 * nt + 4) a5) (70 * nt + 5) a6) (70 * nt + 6) a7) (70 * nt + 7) a8) (70 * nt + 8) a9) (70 * nt + c) := by
    intro c hc
    rcases (show c = 0 ∨ c = 1 ∨ c = 2 ∨ c = 3 ∨ c = 4 ∨ c = 5 ∨ c = 6 ∨ c = 7 ∨ c = 8 ∨ c = 9 by omega) with rfl | rfl | rfl | rfl | rfl | rfl | rfl | rfl | rfl | rfl
    · exact ((h5 _ (by omega)).trans ((pk_un (by omega)).trans ((pk_un (by omega)).trans ((pk_un (by omega)).trans ((pk_un (by omega)).trans ((pk_un (by omega)).trans ((pk_un (by omega)).trans ((pk_un (by omega)).trans ((pk_un (by omega)).trans ((pk_un (by omega)).trans (by rw [show 10 * nt + 0 + 1546 = 10 * nt + 1546 by omega]; exact pk_us))))))))))).trans (((pk_un (by omega)).trans ((pk_un (by omega)).trans ((pk_un (by omega)).trans ((pk_un (by omega)).trans ((pk_un (by omega)).trans ((pk_un (by omega)).trans ((pk_un (by omega)).trans ((pk_un (by omega)).trans (pk_us))))))))).symm)
    · exact ((h5 _ (by omega)).trans ((pk_un (by omega)).trans ((pk_un (by omega)).trans ((pk_un (by omega)).trans ((pk_un (by omega)).trans ((pk_un (by omega)).trans ((pk_un (by omega)).trans ((pk_un (by omega)).trans ((pk_un (by omega)).trans (by rw [show 10 * nt + 1 + 1546 = 10 * nt + 1547 by omega]; exact pk_us)))))))))).trans (((pk_un (by omega)).trans ((pk_un (by omega)).trans ((pk_un (by omega)).trans ((pk_un (by omega)).trans ((pk_un (by omega)).trans ((pk_un (by omega)).trans ((pk_un (by omega)).trans (pk_us)))))))).symm)
    · exact ((h5 _ (by omega)).trans ((pk_un (by omega)).trans ((pk_un (by omega)).trans ((pk_un (by omega)).trans ((pk_un (by omega)).trans ((pk_un (by omega)).trans ((pk_un (by omega)).trans ((pk_un (by omega)).trans (by rw [show 10 * nt + 2 + 1546 = 10 * nt + 1548 by omega]; exact pk_us))))))))).trans (((pk_un (by omega)).trans ((pk_un (by omega)).trans ((pk_un (by omega)).trans ((pk_un (by omega)).trans ((pk_un (by omega)).trans ((pk_un (by omega)).trans (pk_us))))))).symm)
    · exact ((h5 _ (by omega)).trans ((pk_un (by omega)).trans ((pk_un (by omega)).trans ((pk_un (by omega)).trans ((pk_un (by omega)).trans ((pk_un (by omega)).trans ((pk_un (by omega)).trans (by rw [show 10 * nt + 3 + 1546 = 10 * nt + 1549 by omega]; exact pk_us)))))))).trans (((pk_un (by omega)).trans ((pk_un (by omega)).trans ((pk_un (by omega)).trans ((pk_un (by omega)).trans ((pk_un (by omega)).trans (pk_us)))))).symm)
    · exact ((h5 _ (by omega)).trans ((pk_un (by omega)).trans ((pk_un (by omega)).trans ((pk_un (by omega)).trans ((pk_un (by omega)).trans ((pk_un (by omega)).trans (by rw [show 10 * nt + 4 + 1546 = 10 * nt + 1550 by omega]; exact pk_us))))))).trans (((pk_un (by omega)).trans ((pk_un (by omega)).trans ((pk_un (by omega)).trans ((pk_un (by omega)).trans (pk_us))))).symm)
    · exact ((h5 _ (by omega)).trans ((pk_un (by omega)).trans ((pk_un (by omega)).trans ((pk_un (by omega)).trans ((pk_un (by omega)).trans (by rw [show 10 * nt + 5 + 1546 = 10 * nt + 1551 by omega]; exact pk_us)))))).trans (((pk_un (by omega)).trans ((pk_un (by omega)).trans ((pk_un (by omega)).trans (pk_us)))).symm)
    · exact ((h5 _ (by omega)).trans ((pk_un (by omega)).trans ((pk_un (by omega)).trans ((pk_un (by omega)).trans (by rw [show 10 * nt + 6 + 1546 = 10 * nt + 1552 by omega]; exact pk_us))))).trans (((pk_un (by omega)).trans ((pk_un (by omega)).trans (pk_us))).symm)
    · exact ((h5 _ (by omega)).trans ((pk_un (by omega)).trans ((pk_un (by omega)).trans (by rw [show 10 * nt + 7 + 1546 = 10 * nt + 1553 by omega]; exact pk_us)))).trans (((pk_un (by omega)).trans (pk_us)).symm)
    · exact ((h5 _ (by omega)).trans ((pk_un (by omega)).trans (by rw [show 10 * nt + 8 + 1546 = 10 * nt + 1554 by omega]; exact pk_us))).trans ((pk_us).symm)
    · exact ((h5 _ (by omega)).trans (by rw [show 10 * nt + 9 + 1546 = 10 * nt + 1555 by omega]; exact pk_us)).trans (((un _ (by omega)).trans (h.z4 _ (by omega) (by omega))).symm)
  exact ⟨((pk_un (by omega)).trans (lo _ (by omega))).trans h.n0, ((pk_un (by omega)).trans (lo _ (by omega))).trans h.n1, ((pk_un (by omega)).trans (lo _ (by omega))).trans h.n2, pk_us, h.b0, h.b1, h.b2, by omega, ((pk_un (by omega)).trans (lo _ (by omega))).trans h.p0, ((pk_un (by omega)).trans (lo _ (by omega))).trans h.p1, fun k hk => ((pk_un (by omega)).trans (lo _ (by omega))).trans (h.e0 k hk), fun k hk => ((pk_un (by omega)).trans (lo _ (by omega))).trans (h.e1 k hk), fun k hk => ((pk_un (by omega)).trans (lo _ (by omega))).trans (h.e2 k hk), fun t ht c hc => (pk_un (by omega)).trans (if e9 : t = nt then (by subst e9; exact he c hc) else (lo _ (by omega)).trans ((h.e4 t (by omega) c hc).trans (un _ (by omega)).symm)), fun t ht c hc => (pk_un (by omega)).trans (if e9 : t = nt then (by subst e9; rw [show 60 * t + c + 1646 = c + 60 * t + 1646 by omega, h7 c hc]; exact ((un _ (by omega)).trans (h.z4 _ (by omega) (by omega))).symm) else ((h6 _ (by omega) (by omega)).trans ((pk_un (by omega)).trans ((pk_un (by omega)).trans ((pk_un (by omega)).trans ((pk_un (by omega)).trans ((pk_un (by omega)).trans ((pk_un (by omega)).trans ((pk_un (by omega)).trans ((pk_un (by omega)).trans ((pk_un (by omega)).trans ((pk_un (by omega))))))))))))).trans ((h.l4 t (by omega) c hc).trans (un _ (by omega)).symm)), fun k h1 h2 => (un _ (by omega)).trans (h.z4 k (by omega) h2), fun x hx => ((pk_un (by omega)).trans (lo _ (by omega))).trans (h.tt x hx), h.tb, fun x hx k hk => by have := h.tb x hx; exact ((pk_un (by omega)).trans (lo _ (by omega))).trans (h.ts x hx k hk), fun t ht => if e9 : t = nt then (by subst e9; rw [show (upd (upd (upd (upd (upd (upd (upd (upd (upd ct (70 * t + 0) a1) (70 * t + 1) a2) (70 * t + 2) a3) (70 * t + 3) a4) (70 * t + 4) a5) (70 * t + 5) a6) (70 * t + 6) a7) (70 * t + 7) a8) (70 * t + 8) a9) (70 * t) = a1 from (pk_un (by omega)).trans ((pk_un (by omega)).trans ((pk_un (by omega)).trans ((pk_un (by omega)).trans ((pk_un (by omega)).trans ((pk_un (by omega)).trans ((pk_un (by omega)).trans ((pk_un (by omega)).trans (pk_us))))))))]; exact ha) else (by rw [un _ (by omega)]; exact h.d4 t (by omega)), ((pk_un (by omega)).trans (lo _ (by omega))).trans h.n3, h.b3, fun i hi c hc => ((pk_un (by omega)).trans (lo _ (by omega))).trans (h.a3 i hi c hc), fun i hi => ((pk_un (by omega)).trans (lo _ (by omega))).trans (h.l3 i hi), h.m3, fun i hi k hk => by have h50 := h.m3 i hi; exact ((pk_un (by omega)).trans (lo _ (by omega))).trans (h.g3 i hi k hk), trC_new h.tc hn (fun k hk => un k (by omega)) (show (upd (upd (upd (upd (upd (upd (upd (upd (upd ct (70 * nt + 0) a1) (70 * nt + 1) a2) (70 * nt + 2) a3) (70 * nt + 3) a4) (70 * nt + 4) a5) (70 * nt + 5) a6) (70 * nt + 6) a7) (70 * nt + 7) a8) (70 * nt + 8) a9) (70 * nt + 0) = a1 from (pk_un (by omega)).trans ((pk_un (by omega)).trans ((pk_un (by omega)).trans ((pk_un (by omega)).trans ((pk_un (by omega)).trans ((pk_un (by omega)).trans ((pk_un (by omega)).trans ((pk_un (by omega)).trans (pk_us))))))))) (show (upd (upd (upd (upd (upd (upd (upd (upd (upd ct (70 * nt + 0) a1) (70 * nt + 1) a2) (70 * nt + 2) a3) (70 * nt + 3) a4) (70 * nt + 4) a5) (70 * nt + 5) a6) (70 * nt + 6) a7) (70 * nt + 7) a8) (70 * nt + 8) a9) (70 * nt + 1) = a2 from (pk_un (by omega)).trans ((pk_un (by omega)).trans ((pk_un (by omega)).trans ((pk_un (by omega)).trans ((pk_un (by omega)).trans ((pk_un (by omega)).trans ((pk_un (by omega)).trans (pk_us)))))))) (show (upd (upd (upd (upd (upd (upd (upd (upd (upd ct (70 * nt + 0) a1) (70 * nt + 1) a2) (70 * nt + 2) a3) (70 * nt + 3) a4) (70 * nt + 4) a5) (70 * nt + 5) a6) (70 * nt + 6) a7) (70 * nt + 7) a8) (70 * nt + 8) a9) (70 * nt + 2) = a3 from (pk_un (by omega)).trans ((pk_un (by omega)).trans ((pk_un (by omega)).trans ((pk_un (by omega)).trans ((pk_un (by omega)).trans ((pk_un (by omega)).trans (pk_us))))))) (show (upd (upd (upd (upd (upd (upd (upd (upd (upd ct (70 * nt + 0) a1) (70 * nt + 1) a2) (70 * nt + 2) a3) (70 * nt + 3) a4) (70 * nt + 4) a5) (70 * nt + 5) a6) (70 * nt + 6) a7) (70 * nt + 7) a8) (70 * nt + 8) a9) (70 * nt + 6) = a7 from (pk_un (by omega)).trans ((pk_un (by omega)).trans (pk_us))) (show (upd (upd (upd (upd (upd (upd (upd (upd (upd ct (70 * nt + 0) a1) (70 * nt + 1) a2) (70 * nt + 2) a3) (70 * nt + 3) a4) (70 * nt + 4) a5) (70 * nt + 5) a6) (70 * nt + 6) a7) (70 * nt + 7) a8) (70 * nt + 8) a9) (70 * nt + 8) = a9 from pk_us) (of_decide_eq_true hok.1).1 (nd_ol h.b4 hok.1) hok.2.1 hok.2.2.1 hok.2.2.2.2.2.2.1 hok.2.2.2.2.2.2.2⟩
theorem rF_trial {na : Nat} {da : Nat → Int32} {LL : Nat → Nat} {LG : Nat → Nat → Int32} {np nf nr nt : Nat} {dp df dr ct : Nat → Int32} {pay fine : Int32} {T : Nat → Nat} {S : Nat → Nat → Int32} {s : Nat → Int32} {np9 nf9 nr9 na9 nt9 : Nat} {nt' : Nat} {ct' s' : Nat → Int32} {z z' a1 a2 a3 a4 a5 a6 a7 a8 a9 : Int32} (h : rcF na da LL LG np nf nr nt dp df dr ct pay fine T S s) (hs : stOK s np9 nf9 nr9 na9 nt9)
    (hc : (¬ (ndB ct nt a1 = true ∧ inB 1 a2 9 = true ∧ inB 1 a3 8 = true ∧ inB (-1) a4 9 = true ∧ inB (-1) a5 9 = true ∧ inB (-1) a6 3 = true ∧ inB 0 a7 4 = true ∧ inB 1 a9 24 = true) ∧ z = -2 ∧ nt' = nt ∧ ct' = ct) ∨ ((ndB ct nt a1 = true ∧ inB 1 a2 9 = true ∧ inB 1 a3 8 = true ∧ inB (-1) a4 9 = true ∧ inB (-1) a5 9 = true ∧ inB (-1) a6 3 = true ∧ inB 0 a7 4 = true ∧ inB 1 a9 24 = true) ∧ ¬ nt < 10 ∧ z = -4 ∧ nt' = nt ∧ ct' = ct) ∨ ((ndB ct nt a1 = true ∧ inB 1 a2 9 = true ∧ inB 1 a3 8 = true ∧ inB (-1) a4 9 = true ∧ inB (-1) a5 9 = true ∧ inB (-1) a6 3 = true ∧ inB 0 a7 4 = true ∧ inB 1 a9 24 = true) ∧ nt < 10 ∧ z = nI nt ∧ nt' = nt + 1 ∧ ct' = upd (upd (upd (upd (upd (upd (upd (upd (upd ct (Int32.toNatClampNeg (nI nt * nI 70 + 0)) a1) (Int32.toNatClampNeg (nI nt * nI 70 + 1)) a2) (Int32.toNatClampNeg (nI nt * nI 70 + 2)) a3) (Int32.toNatClampNeg (nI nt * nI 70 + 3)) a4) (Int32.toNatClampNeg (nI nt * nI 70 + 4)) a5) (Int32.toNatClampNeg (nI nt * nI 70 + 5)) a6) (Int32.toNatClampNeg (nI nt * nI 70 + 6)) a7) (Int32.toNatClampNeg (nI nt * nI 70 + 7)) a8) (Int32.toNatClampNeg (nI nt * nI 70 + 8)) a9))
    (hm : (¬ (inB (frS s nt9) a1 9999 = true ∧ inB 1 a2 9 = true ∧ inB 1 a3 8 = true ∧ inB (-1) a4 9 = true ∧ inB (-1) a5 9 = true ∧ inB (-1) a6 3 = true ∧ inB 0 a7 4 = true ∧ inB 1 a9 24 = true) ∧ z' = -2 ∧ s' = s) ∨ ((inB (frS s nt9) a1 9999 = true ∧ inB 1 a2 9 = true ∧ inB 1 a3 8 = true ∧ inB (-1) a4 9 = true ∧ inB (-1) a5 9 = true ∧ inB (-1) a6 3 = true ∧ inB 0 a7 4 = true ∧ inB 1 a9 24 = true) ∧ nt9 = 10 ∧ z' = -4 ∧ s' = s) ∨ ((inB (frS s nt9) a1 9999 = true ∧ inB 1 a2 9 = true ∧ inB 1 a3 8 = true ∧ inB (-1) a4 9 = true ∧ inB (-1) a5 9 = true ∧ inB (-1) a6 3 = true ∧ inB 0 a7 4 = true ∧ inB 1 a9 24 = true) ∧ nt9 < 10 ∧ z' = nI nt9 ∧ ∃ s5, s' = upd s5 4 (nI (nt9 + 1)) ∧ (∀ j, j < 1646 → s5 j = (upd (upd (upd (upd (upd (upd (upd (upd (upd (upd s (10 * nt9 + 1546) a1) (10 * nt9 + 1547) a2) (10 * nt9 + 1548) a3) (10 * nt9 + 1549) a4) (10 * nt9 + 1550) a5) (10 * nt9 + 1551) a6) (10 * nt9 + 1552) a7) (10 * nt9 + 1553) a8) (10 * nt9 + 1554) a9) (10 * nt9 + 1555) 0) j) ∧ (∀ j, 1646 ≤ j → (j < 60 * nt9 + 1646 ∨ 60 + 60 * nt9 + 1646 ≤ j) → s5 j = (upd (upd (upd (upd (upd (upd (upd (upd (upd (upd s (10 * nt9 + 1546) a1) (10 * nt9 + 1547) a2) (10 * nt9 + 1548) a3) (10 * nt9 + 1549) a4) (10 * nt9 + 1550) a5) (10 * nt9 + 1551) a6) (10 * nt9 + 1552) a7) (10 * nt9 + 1553) a8) (10 * nt9 + 1554) a9) (10 * nt9 + 1555) 0) j) ∧ (∀ q, q < 60 → s5 (q + 60 * nt9 + 1646) = 0))) : z = z' ∧ rcF na da LL LG np nf nr nt' dp df dr ct' pay fine T S s' := by
  have b3 := h.b3
  have b0 := h.b0
  have b1 := h.b1
  have b2 := h.b2
  have b4 := h.b4
  obtain rfl : np = np9 := nI_inj (by omega) (by have := hs.c0; omega) (h.n0.symm.trans hs.h0)
  obtain rfl : nf = nf9 := nI_inj (by omega) (by have := hs.c1; omega) (h.n1.symm.trans hs.h1)
  obtain rfl : nr = nr9 := nI_inj (by omega) (by have := hs.c2; omega) (h.n2.symm.trans hs.h2)
  obtain rfl : na = na9 := nI_inj (by omega) (by have := hs.c3; omega) (h.n3.symm.trans hs.h3)
  obtain rfl : nt = nt9 := nI_inj (by omega) (by have := hs.c4; omega) (h.n4.symm.trans hs.h4)
  have ok : (ndB ct nt a1 = true ∧ inB 1 a2 9 = true ∧ inB 1 a3 8 = true ∧ inB (-1) a4 9 = true ∧ inB (-1) a5 9 = true ∧ inB (-1) a6 3 = true ∧ inB 0 a7 4 = true ∧ inB 1 a9 24 = true) ↔ (inB (frS s nt) a1 9999 = true ∧ inB 1 a2 9 = true ∧ inB 1 a3 8 = true ∧ inB (-1) a4 9 = true ∧ inB (-1) a5 9 = true ∧ inB (-1) a6 3 = true ∧ inB 0 a7 4 = true ∧ inB 1 a9 24 = true) := and_congr (nd_iff h) Iff.rfl
  rcases hc with ⟨c1, c2, c3, c4⟩ | ⟨c1, c0, c2, c3, c4⟩ | ⟨c1, c0, c2, c3, c4⟩
  · rcases hm with ⟨m1, m2, m3⟩ | ⟨m1, _⟩ | ⟨m1, _⟩
    · rw [c2, m2, c3, c4, m3]; exact ⟨rfl, h⟩
    · exact absurd (ok.mpr m1) c1
    · exact absurd (ok.mpr m1) c1
  · rcases hm with ⟨m1, _⟩ | ⟨m1, m0, m2, m3⟩ | ⟨m1, m0, _⟩
    · exact absurd (ok.mp c1) m1
    · rw [c2, m2, c3, c4, m3]; exact ⟨rfl, h⟩
    · exact absurd m0 c0
  · rcases hm with ⟨m1, _⟩ | ⟨m1, m0, _⟩ | ⟨m1, m0, m2, m3⟩
    · exact absurd (ok.mp c1) m1
    · omega
    · obtain ⟨s5, m3, m4, m5, m6⟩ := m3
      rw [c2, m2, c3, c4, m3]; exact ⟨rfl, rcF_trial h c0 (of_decide_eq_true (of_decide_eq_true c1.1).1).1 m4 m5 m6 c1⟩
theorem rcF_ct {na : Nat} {da : Nat → Int32} {LL : Nat → Nat} {LG : Nat → Nat → Int32} {np nf nr nt : Nat} {dp df dr ct : Nat → Int32} {pay fine : Int32} {T : Nat → Nat} {S : Nat → Nat → Int32} {s : Nat → Int32} {x w : Nat} {v : Int32} (h : rcF na da LL LG np nf nr nt dp df dr ct pay fine T S s) (hx : x < nt) (hw : 9 ≤ w) (hw2 : w < 70) : rcF na da LL LG np nf nr nt dp df dr (upd ct (70 * x + w) v) pay fine T S (if w < 10 then upd s (10 * x + w + 1546) v else upd s (60 * x + (w - 10) + 1646) v) := by
  have b3 := h.b3
  have b0 := h.b0
  have b1 := h.b1
  have b2 := h.b2
  have b4 := h.b4
  by_cases hw3 : w < 10
  · rw [if_pos hw3]
    exact ⟨((pk_un (by omega))).trans h.n0, ((pk_un (by omega))).trans h.n1, ((pk_un (by omega))).trans h.n2, ((pk_un (by omega))).trans h.n4, h.b0, h.b1, h.b2, h.b4, ((pk_un (by omega))).trans h.p0, ((pk_un (by omega))).trans h.p1, fun k hk => ((pk_un (by omega))).trans (h.e0 k hk), fun k hk => ((pk_un (by omega))).trans (h.e1 k hk), fun k hk => ((pk_un (by omega))).trans (h.e2 k hk), fun t ht c hc => if e9 : t = x ∧ c = w then (by obtain ⟨rfl, rfl⟩ := e9; exact pk_us.trans pk_us.symm) else (pk_un (by omega)).trans ((h.e4 t ht c hc).trans (pk_un (by omega)).symm), fun t ht c hc => (pk_un (by omega)).trans ((h.l4 t ht c hc).trans (pk_un (by omega)).symm), fun k h1 h2 => (pk_un (by omega)).trans (h.z4 k h1 h2), fun x hx => ((pk_un (by omega))).trans (h.tt x hx), h.tb, fun x hx k hk => by have := h.tb x hx; exact ((pk_un (by omega))).trans (h.ts x hx k hk), fun t ht => by rw [pk_un (by omega)]; exact h.d4 t ht, ((pk_un (by omega))).trans h.n3, h.b3, fun i hi c hc => ((pk_un (by omega))).trans (h.a3 i hi c hc), fun i hi => ((pk_un (by omega))).trans (h.l3 i hi), h.m3, fun i hi k hk => by have h50 := h.m3 i hi; exact ((pk_un (by omega))).trans (h.g3 i hi k hk), trC_upd h.tc hw hw2⟩
  · rw [if_neg hw3]
    exact ⟨((pk_un (by omega))).trans h.n0, ((pk_un (by omega))).trans h.n1, ((pk_un (by omega))).trans h.n2, ((pk_un (by omega))).trans h.n4, h.b0, h.b1, h.b2, h.b4, ((pk_un (by omega))).trans h.p0, ((pk_un (by omega))).trans h.p1, fun k hk => ((pk_un (by omega))).trans (h.e0 k hk), fun k hk => ((pk_un (by omega))).trans (h.e1 k hk), fun k hk => ((pk_un (by omega))).trans (h.e2 k hk), fun t ht c hc => (pk_un (by omega)).trans ((h.e4 t ht c hc).trans (pk_un (by omega)).symm), fun t ht c hc => if e9 : t = x ∧ c + 10 = w then (by obtain ⟨rfl, rfl⟩ := e9; rw [show 60 * t + (c + 10 - 10) + 1646 = 60 * t + c + 1646 by omega]; exact pk_us.trans pk_us.symm) else (pk_un (by omega)).trans ((h.l4 t ht c hc).trans (pk_un (by omega)).symm), fun k h1 h2 => (pk_un (by omega)).trans (h.z4 k h1 h2), fun x hx => ((pk_un (by omega))).trans (h.tt x hx), h.tb, fun x hx k hk => by have := h.tb x hx; exact ((pk_un (by omega))).trans (h.ts x hx k hk), fun t ht => by rw [pk_un (by omega)]; exact h.d4 t ht, ((pk_un (by omega))).trans h.n3, h.b3, fun i hi c hc => ((pk_un (by omega))).trans (h.a3 i hi c hc), fun i hi => ((pk_un (by omega))).trans (h.l3 i hi), h.m3, fun i hi k hk => by have h50 := h.m3 i hi; exact ((pk_un (by omega))).trans (h.g3 i hi k hk), trC_upd h.tc hw hw2⟩
theorem rF_away {na : Nat} {da : Nat → Int32} {LL : Nat → Nat} {LG : Nat → Nat → Int32} {np nf nr nt : Nat} {dp df dr ct : Nat → Int32} {pay fine : Int32} {T : Nat → Nat} {S : Nat → Nat → Int32} {s : Nat → Int32} {np9 nf9 nr9 na9 nt9 : Nat} {ct' s' : Nat → Int32} {z z' a1 a2 a3 : Int32} (h : rcF na da LL LG np nf nr nt dp df dr ct pay fine T S s) (hs : stOK s np9 nf9 nr9 na9 nt9)
    (hc : (¬ (inN a1 nt = true ∧ inN a2 np = true) ∧ z = -2 ∧ ct' = ct) ∨ (inN a2 np = true ∧ ∃ t9, t9 < nt ∧ a1 = nI t9 ∧ ((b2 (hbt (atv ct nt 70 (nI t9) 9) a2 = true) = a3 ∧ z = -3 ∧ ct' = ct) ∨ (¬ b2 (hbt (atv ct nt 70 (nI t9) 9) a2 = true) = a3 ∧ z = 1 ∧ ct' = upd ct (Int32.toNatClampNeg (nI t9 * nI 70 + 9)) (atv ct nt 70 (nI t9) 9 ^^^ ((1 : Int32) <<< (a2 &&& 31)))))))
    (hm : (¬ (inN a1 nt9 = true ∧ inN a2 np9 = true) ∧ z' = -2 ∧ s' = s) ∨ (inN a2 np9 = true ∧ ∃ x, x < nt9 ∧ a1 = nI x ∧ ((((s (10 * x + 1555) >>> (a2 &&& 31) &&& 1 = 1 ∧ a3 = 1) ∨ (¬ s (10 * x + 1555) >>> (a2 &&& 31) &&& 1 = 1 ∧ a3 = 0)) ∧ z' = -3 ∧ s' = s) ∨ (((s (10 * x + 1555) >>> (a2 &&& 31) &&& 1 = 1 ∧ ¬ a3 = 1) ∨ (¬ s (10 * x + 1555) >>> (a2 &&& 31) &&& 1 = 1 ∧ ¬ a3 = 0)) ∧ z' = 1 ∧ s' = upd s (10 * x + 1555) (s (10 * x + 1555) ^^^ ((1 : Int32) <<< (a2 &&& 31))))))) : z = z' ∧ rcF na da LL LG np nf nr nt dp df dr ct' pay fine T S s' := by
  have b3 := h.b3
  have b0 := h.b0
  have b1 := h.b1
  have b2 := h.b2
  have b4 := h.b4
  obtain rfl : np = np9 := nI_inj (by omega) (by have := hs.c0; omega) (h.n0.symm.trans hs.h0)
  obtain rfl : nf = nf9 := nI_inj (by omega) (by have := hs.c1; omega) (h.n1.symm.trans hs.h1)
  obtain rfl : nr = nr9 := nI_inj (by omega) (by have := hs.c2; omega) (h.n2.symm.trans hs.h2)
  obtain rfl : na = na9 := nI_inj (by omega) (by have := hs.c3; omega) (h.n3.symm.trans hs.h3)
  obtain rfl : nt = nt9 := nI_inj (by omega) (by have := hs.c4; omega) (h.n4.symm.trans hs.h4)
  rcases hc with ⟨c1, c2, c3⟩ | ⟨c1, x, hx, ex, hc⟩
  · rcases hm with ⟨m1, m2, m3⟩ | ⟨m1, x, hx, ex, _⟩
    · rw [c2, m2, c3, m3]; exact ⟨rfl, h⟩
    · exact absurd ⟨by rw [ex]; exact inN_n hx (by omega), m1⟩ c1
  · rcases hm with ⟨m1, _⟩ | ⟨_, y, hy, ey, hm⟩
    · exact absurd ⟨by rw [ex]; exact inN_n hx (by omega), c1⟩ m1
    · obtain rfl : x = y := nI_inj (by omega) (by omega) (ex.symm.trans ey)
      obtain ⟨q, hq, rfl⟩ := inN_nat (by omega) c1
      have ev : s (10 * x + 1555) = ct (70 * x + 9) := h.e4 x hx 9 (by omega)
      rw [show (9 : Int32) = nI 9 from rfl, atN hx (by omega) (by omega) (by omega), ixN (by omega), hbt_bt (by omega)] at hc
      rw [ev, sr_iff (by omega)] at hm
      have hnew := rcF_ct (v := ct (70 * x + 9) ^^^ ((1 : Int32) <<< (nI q &&& 31))) h hx (w := 9) (by omega) (by omega)
      rw [if_pos (by omega)] at hnew
      cases hb : bt (ct (70 * x + 9)) q
      · rw [hb] at hc hm
        rcases hc with ⟨c1, c2, c3⟩ | ⟨c1, c2, c3⟩
        · rcases hm with ⟨m1, m2, m3⟩ | ⟨m1, m2, m3⟩
          · rw [c2, m2, c3, m3]; exact ⟨rfl, h⟩
          · rcases m1 with ⟨m1, _⟩ | ⟨_, m1⟩
            · exact absurd m1 (by decide)
            · exact absurd c1.symm m1
        · rcases hm with ⟨m1, m2, m3⟩ | ⟨m1, m2, m3⟩
          · rcases m1 with ⟨m1, _⟩ | ⟨_, m1⟩
            · exact absurd m1 (by decide)
            · exact absurd m1.symm c1
          · rw [c2, m2, c3, m3]; exact ⟨rfl, hnew⟩
      · rw [hb] at hc hm
        rcases hc with ⟨c1, c2, c3⟩ | ⟨c1, c2, c3⟩
        · rcases hm with ⟨m1, m2, m3⟩ | ⟨m1, m2, m3⟩
          · rw [c2, m2, c3, m3]; exact ⟨rfl, h⟩
          · rcases m1 with ⟨_, m1⟩ | ⟨m1, _⟩
            · exact absurd c1.symm m1
            · exact absurd rfl m1
        · rcases hm with ⟨m1, m2, m3⟩ | ⟨m1, m2, m3⟩
          · rcases m1 with ⟨_, m1⟩ | ⟨m1, _⟩
            · exact absurd m1.symm c1
            · exact absurd rfl m1
          · rw [c2, m2, c3, m3]; exact ⟨rfl, hnew⟩
theorem inB_y {y : Nat} (h : y ≤ 1) : inB 0 (nI y) 1 = true := by
  rcases (show y = 0 ∨ y = 1 by omega) with rfl | rfl <;> decide
theorem rF_like {na : Nat} {da : Nat → Int32} {LL : Nat → Nat} {LG : Nat → Nat → Int32} {np nf nr nt : Nat} {dp df dr ct : Nat → Int32} {pay fine : Int32} {T : Nat → Nat} {S : Nat → Nat → Int32} {s : Nat → Int32} {np9 nf9 nr9 na9 nt9 : Nat} {ct' s' : Nat → Int32} {z z' a1 a2 a3 a4 : Int32} (h : rcF na da LL LG np nf nr nt dp df dr ct pay fine T S s) (hs : stOK s np9 nf9 nr9 na9 nt9)
    (hc : (¬ (inN a1 nt = true ∧ inB 0 a2 1 = true ∧ inN a3 np = true ∧ inB (-100) a4 100 = true) ∧ z = -1000 ∧ ct' = ct) ∨ ((inB 0 a2 1 = true ∧ inN a3 np = true ∧ inB (-100) a4 100 = true) ∧ ∃ t9, t9 < nt ∧ a1 = nI t9 ∧ z = atv ct nt 70 (nI t9) (10 + a2 * 30 + a3) ∧ ct' = upd ct (Int32.toNatClampNeg (nI t9 * nI 70 + (10 + a2 * 30 + a3))) a4))
    (hm : (¬ (inN a1 nt9 = true ∧ inB 0 a2 1 = true ∧ inN a3 np9 = true ∧ inB (-100) a4 100 = true) ∧ z' = -1000 ∧ s' = s) ∨ (inB (-100) a4 100 = true ∧ ∃ x y q, x < nt9 ∧ a1 = nI x ∧ y ≤ 1 ∧ a2 = nI y ∧ q < np9 ∧ a3 = nI q ∧ z' = s (q + 30 * y + 60 * x + 1646) ∧ s' = upd s (q + 30 * y + 60 * x + 1646) a4)) : z = z' ∧ rcF na da LL LG np nf nr nt dp df dr ct' pay fine T S s' := by
  have b3 := h.b3
  have b0 := h.b0
  have b1 := h.b1
  have b2 := h.b2
  have b4 := h.b4
  obtain rfl : np = np9 := nI_inj (by omega) (by have := hs.c0; omega) (h.n0.symm.trans hs.h0)
  obtain rfl : nf = nf9 := nI_inj (by omega) (by have := hs.c1; omega) (h.n1.symm.trans hs.h1)
  obtain rfl : nr = nr9 := nI_inj (by omega) (by have := hs.c2; omega) (h.n2.symm.trans hs.h2)
  obtain rfl : na = na9 := nI_inj (by omega) (by have := hs.c3; omega) (h.n3.symm.trans hs.h3)
  obtain rfl : nt = nt9 := nI_inj (by omega) (by have := hs.c4; omega) (h.n4.symm.trans hs.h4)
  rcases hc with ⟨c1, c2, c3⟩ | ⟨⟨d1, d2, d3⟩, x, hx, ex, c2, c3⟩
  · rcases hm with ⟨m1, m2, m3⟩ | ⟨m0, x, y, q, m1, m2, m3, m4, m5, m6, _⟩
    · rw [c2, m2, c3, m3]; exact ⟨rfl, h⟩
    · exact absurd ⟨by rw [m2]; exact inN_n m1 (by omega), by rw [m4]; exact inB_y m3, by rw [m6]; exact inN_n m5 (by omega), m0⟩ c1
  · rcases hm with ⟨m1, _⟩ | ⟨m0, x', y, q, m1, m2, m3, m4, m5, m6, m7, m8⟩
    · exact absurd ⟨by rw [ex]; exact inN_n hx (by omega), d1, d2, d3⟩ m1
    · obtain rfl : x = x' := nI_inj (by omega) (by omega) (ex.symm.trans m2)
      have ec : (10 : Int32) + a2 * 30 + a3 = nI (10 + (30 * y + q)) := by
        rw [m4, m6, show (10 : Int32) = nI 10 from rfl, show (30 : Int32) = nI 30 from rfl, nI_mul, nI_add, nI_add]; congr 1; omega
      rw [ec, atN hx (by omega) (by omega) (by omega)] at c2
      rw [ec, ixN (by omega)] at c3
      have hnew := rcF_ct (v := a4) h hx (w := 10 + (30 * y + q)) (by omega) (by omega)
      rw [if_neg (by omega), show 60 * x + (10 + (30 * y + q) - 10) + 1646 = q + 30 * y + 60 * x + 1646 by omega] at hnew
      rw [c3, m8]
      refine ⟨?_, hnew⟩
      rw [c2, m7]
      have := h.l4 x hx (30 * y + q) (by omega)
      rw [show q + 30 * y + 60 * x + 1646 = 60 * x + (30 * y + q) + 1646 by omega, this]
      congr 1; omega
theorem rF_sums {na : Nat} {da : Nat → Int32} {LL : Nat → Nat} {LG : Nat → Nat → Int32} {np nf nr nt : Nat} {dp df dr ct : Nat → Int32} {pay fine : Int32} {T : Nat → Nat} {S : Nat → Nat → Int32} {s : Nat → Int32} {pay' fine' : Int32} {s' : Nat → Int32} {z z' a1 a2 : Int32} {OK : Prop} (h : rcF na da LL LG np nf nr nt dp df dr ct pay fine T S s)
    (hc : (¬ OK ∧ z = -2 ∧ pay' = pay ∧ fine' = fine) ∨ (OK ∧ z = 1 ∧ pay' = a1 ∧ fine' = a2))
    (hm : (¬ OK ∧ z' = -2 ∧ s' = s) ∨ (OK ∧ z' = 1 ∧ s' = upd (upd s 5 a1) 6 a2)) : z = z' ∧ rcF na da LL LG np nf nr nt dp df dr ct pay' fine' T S s' := by
  have b3 := h.b3
  have b0 := h.b0
  have b1 := h.b1
  have b2 := h.b2
  have b4 := h.b4
  rcases hc with ⟨c1, c2, c3, c4⟩ | ⟨c1, c2, c3, c4⟩
  · rcases hm with ⟨m1, m2, m3⟩ | ⟨m1, _⟩
    · rw [c2, m2, c3, c4, m3]; exact ⟨rfl, h⟩
    · exact absurd m1 c1
  · rcases hm with ⟨m1, _⟩ | ⟨m1, m2, m3⟩
    · exact absurd c1 m1
    · rw [c2, m2, c3, c4, m3]
      exact ⟨rfl, ⟨((pk_un (by omega)).trans ((pk_un (by omega)))).trans h.n0, ((pk_un (by omega)).trans ((pk_un (by omega)))).trans h.n1, ((pk_un (by omega)).trans ((pk_un (by omega)))).trans h.n2, ((pk_un (by omega)).trans ((pk_un (by omega)))).trans h.n4, h.b0, h.b1, h.b2, h.b4, (pk_un (by omega)).trans pk_us, pk_us, fun k hk => ((pk_un (by omega)).trans ((pk_un (by omega)))).trans (h.e0 k hk), fun k hk => ((pk_un (by omega)).trans ((pk_un (by omega)))).trans (h.e1 k hk), fun k hk => ((pk_un (by omega)).trans ((pk_un (by omega)))).trans (h.e2 k hk), fun t ht c hc => ((pk_un (by omega)).trans ((pk_un (by omega)))).trans (h.e4 t ht c hc), fun t ht c hc => ((pk_un (by omega)).trans ((pk_un (by omega)))).trans (h.l4 t ht c hc), h.z4, fun x hx => ((pk_un (by omega)).trans ((pk_un (by omega)))).trans (h.tt x hx), h.tb, fun x hx k hk => by have := h.tb x hx; exact ((pk_un (by omega)).trans ((pk_un (by omega)))).trans (h.ts x hx k hk), h.d4, ((pk_un (by omega)).trans ((pk_un (by omega)))).trans h.n3, h.b3, fun i hi c hc => ((pk_un (by omega)).trans ((pk_un (by omega)))).trans (h.a3 i hi c hc), fun i hi => ((pk_un (by omega)).trans ((pk_un (by omega)))).trans (h.l3 i hi), h.m3, fun i hi k hk => by have h50 := h.m3 i hi; exact ((pk_un (by omega)).trans ((pk_un (by omega)))).trans (h.g3 i hi k hk), h.tc⟩⟩
theorem rcF_write {na : Nat} {da : Nat → Int32} {LL : Nat → Nat} {LG : Nat → Nat → Int32} {np nf nr nt : Nat} {dp df dr ct : Nat → Int32} {pay fine : Int32} {T : Nat → Nat} {S : Nat → Nat → Int32} {s : Nat → Int32} {x : Nat} {v : Int32} (h : rcF na da LL LG np nf nr nt dp df dr ct pay fine T S s) (hx : x < 4) (hl : T x < 50) : rcF na da LL LG np nf nr nt dp df dr ct pay fine (upN T x (T x + 1)) (upN S x (upd (S x) (T x) v)) (upd (upd s (51 * x + 262) (nI (T x + 1))) (T x + 51 * x + 263) v) := by
  have b3 := h.b3
  have b0 := h.b0
  have b1 := h.b1
  have b2 := h.b2
  have b4 := h.b4
  have ht : ∀ z, z < 4 → (upd (upd s (51 * x + 262) (nI (T x + 1))) (T x + 51 * x + 263) v) (51 * z + 262) = nI (upN T x (T x + 1) z) := by
    intro z hz
    by_cases e9 : z = x
    · subst e9; rw [upN_s]; exact (pk_un (by omega)).trans pk_us
    · rw [upN_o e9]; exact (pk_un (by omega)).trans ((pk_un (by omega)).trans (h.tt z hz))
  have hs : ∀ z, z < 4 → ∀ k, k < upN T x (T x + 1) z → (upd (upd s (51 * x + 262) (nI (T x + 1))) (T x + 51 * x + 263) v) (51 * z + k + 263) = upN S x (upd (S x) (T x) v) z k := by
    intro z hz k hk
    by_cases e9 : z = x
    · subst e9
      rw [upN_s] at hk
      rw [upN_s]
      by_cases e8 : k = T z
      · subst e8
        rw [show 51 * z + T z + 263 = T z + 51 * z + 263 by omega]
        exact pk_us.trans pk_us.symm
      · exact (pk_un (by omega)).trans ((pk_un (by omega)).trans ((h.ts z hz k (by omega)).trans (pk_un e8).symm))
    · rw [upN_o e9] at hk
      rw [upN_o e9]
      have := h.tb z hz
      exact (pk_un (by omega)).trans ((pk_un (by omega)).trans (h.ts z hz k hk))
  exact ⟨((pk_un (by omega)).trans ((pk_un (by omega)))).trans h.n0, ((pk_un (by omega)).trans ((pk_un (by omega)))).trans h.n1, ((pk_un (by omega)).trans ((pk_un (by omega)))).trans h.n2, ((pk_un (by omega)).trans ((pk_un (by omega)))).trans h.n4, h.b0, h.b1, h.b2, h.b4, ((pk_un (by omega)).trans ((pk_un (by omega)))).trans h.p0, ((pk_un (by omega)).trans ((pk_un (by omega)))).trans h.p1, fun k hk => ((pk_un (by omega)).trans ((pk_un (by omega)))).trans (h.e0 k hk), fun k hk => ((pk_un (by omega)).trans ((pk_un (by omega)))).trans (h.e1 k hk), fun k hk => ((pk_un (by omega)).trans ((pk_un (by omega)))).trans (h.e2 k hk), fun t ht c hc => ((pk_un (by omega)).trans ((pk_un (by omega)))).trans (h.e4 t ht c hc), fun t ht c hc => ((pk_un (by omega)).trans ((pk_un (by omega)))).trans (h.l4 t ht c hc), h.z4, ht, fun z hz => if e9 : z = x then (by rw [e9, upN_s]; omega) else (by rw [upN_o e9]; exact h.tb z hz), hs, h.d4, ((pk_un (by omega)).trans ((pk_un (by omega)))).trans h.n3, h.b3, fun i hi c hc => ((pk_un (by omega)).trans ((pk_un (by omega)))).trans (h.a3 i hi c hc), fun i hi => ((pk_un (by omega)).trans ((pk_un (by omega)))).trans (h.l3 i hi), h.m3, fun i hi k hk => by have h50 := h.m3 i hi; exact ((pk_un (by omega)).trans ((pk_un (by omega)))).trans (h.g3 i hi k hk), h.tc⟩
theorem rcF_erase {na : Nat} {da : Nat → Int32} {LL : Nat → Nat} {LG : Nat → Nat → Int32} {np nf nr nt : Nat} {dp df dr ct : Nat → Int32} {pay fine : Int32} {T : Nat → Nat} {S : Nat → Nat → Int32} {s : Nat → Int32} {x : Nat} (h : rcF na da LL LG np nf nr nt dp df dr ct pay fine T S s) (hx : x < 4) : rcF na da LL LG np nf nr nt dp df dr ct pay fine (upN T x 0) S (upd s (51 * x + 262) 0) := by
  have b3 := h.b3
  have b0 := h.b0
  have b1 := h.b1
  have b2 := h.b2
  have b4 := h.b4
  have ht : ∀ z, z < 4 → (upd s (51 * x + 262) 0) (51 * z + 262) = nI (upN T x 0 z) := by
    intro z hz
    by_cases e9 : z = x
    · subst e9; rw [upN_s]; exact pk_us
    · rw [upN_o e9]; exact (pk_un (by omega)).trans (h.tt z hz)
  have hs : ∀ z, z < 4 → ∀ k, k < upN T x 0 z → (upd s (51 * x + 262) 0) (51 * z + k + 263) = S z k := by
    intro z hz k hk
    by_cases e9 : z = x
    · subst e9
      rw [upN_s] at hk
      omega
    · rw [upN_o e9] at hk
      have := h.tb z hz
      exact (pk_un (by omega)).trans (h.ts z hz k hk)
  exact ⟨((pk_un (by omega))).trans h.n0, ((pk_un (by omega))).trans h.n1, ((pk_un (by omega))).trans h.n2, ((pk_un (by omega))).trans h.n4, h.b0, h.b1, h.b2, h.b4, ((pk_un (by omega))).trans h.p0, ((pk_un (by omega))).trans h.p1, fun k hk => ((pk_un (by omega))).trans (h.e0 k hk), fun k hk => ((pk_un (by omega))).trans (h.e1 k hk), fun k hk => ((pk_un (by omega))).trans (h.e2 k hk), fun t ht c hc => ((pk_un (by omega))).trans (h.e4 t ht c hc), fun t ht c hc => ((pk_un (by omega))).trans (h.l4 t ht c hc), h.z4, ht, fun z hz => if e9 : z = x then (by rw [e9, upN_s]; omega) else (by rw [upN_o e9]; exact h.tb z hz), hs, h.d4, ((pk_un (by omega))).trans h.n3, h.b3, fun i hi c hc => ((pk_un (by omega))).trans (h.a3 i hi c hc), fun i hi => ((pk_un (by omega))).trans (h.l3 i hi), h.m3, fun i hi k hk => by have h50 := h.m3 i hi; exact ((pk_un (by omega))).trans (h.g3 i hi k hk), h.tc⟩
theorem rF_write {na : Nat} {da : Nat → Int32} {LL : Nat → Nat} {LG : Nat → Nat → Int32} {np nf nr nt : Nat} {dp df dr ct : Nat → Int32} {pay fine : Int32} {T : Nat → Nat} {S : Nat → Nat → Int32} {s : Nat → Int32} {T' : Nat → Nat} {S' : Nat → Nat → Int32} {s' : Nat → Int32} {z z' a1 a2 : Int32} {OK : Prop} (h : rcF na da LL LG np nf nr nt dp df dr ct pay fine T S s)
    (hc : (¬ OK ∧ z = -2 ∧ T' = T ∧ S' = S) ∨ (OK ∧ ∃ x, x ≤ 3 ∧ a1 = nI x ∧ ((¬ T x < 50 ∧ z = -4 ∧ T' = T ∧ S' = S) ∨ (T x < 50 ∧ z = nI (T x + 1) ∧ T' = upN T x (T x + 1) ∧ S' = upN S x (upd (S x) (T x) a2)))))
    (hm : (¬ OK ∧ z' = -2 ∧ s' = s) ∨ (OK ∧ ∃ x l, x ≤ 3 ∧ a1 = nI x ∧ l ≤ 50 ∧ s (51 * x + 262) = nI l ∧ ((l = 50 ∧ z' = -4 ∧ s' = s) ∨ (l < 50 ∧ z' = nI (l + 1) ∧ s' = upd (upd s (51 * x + 262) (nI (l + 1))) (l + 51 * x + 263) a2)))) : z = z' ∧ rcF na da LL LG np nf nr nt dp df dr ct pay fine T' S' s' := by
  rcases hc with ⟨c1, c2, c3, c4⟩ | ⟨c1, x, hx, ex, hc⟩
  · rcases hm with ⟨m1, m2, m3⟩ | ⟨m1, _⟩
    · rw [c2, m2, c3, c4, m3]; exact ⟨rfl, h⟩
    · exact absurd m1 c1
  · rcases hm with ⟨m1, _⟩ | ⟨m1, y, l, hy, ey, hl, el, hm⟩
    · exact absurd c1 m1
    · obtain rfl : x = y := nI_inj (by omega) (by omega) (ex.symm.trans ey)
      obtain rfl : T x = l := nI_inj (h.tb x (by omega)) hl ((h.tt x (by omega)).symm.trans el)
      rcases hc with ⟨c0, c2, c3, c4⟩ | ⟨c0, c2, c3, c4⟩
      · rcases hm with ⟨m0, m2, m3⟩ | ⟨m0, _⟩
        · rw [c2, m2, c3, c4, m3]; exact ⟨rfl, h⟩
        · exact absurd m0 c0
      · rcases hm with ⟨m0, _⟩ | ⟨m0, m2, m3⟩
        · omega
        · rw [c2, m2, c3, c4, m3]; exact ⟨rfl, rcF_write h (by omega) c0⟩
theorem rF_erase {na : Nat} {da : Nat → Int32} {LL : Nat → Nat} {LG : Nat → Nat → Int32} {np nf nr nt : Nat} {dp df dr ct : Nat → Int32} {pay fine : Int32} {T : Nat → Nat} {S : Nat → Nat → Int32} {s : Nat → Int32} {T' : Nat → Nat} {s' : Nat → Int32} {z z' a1 : Int32} {OK : Prop} (h : rcF na da LL LG np nf nr nt dp df dr ct pay fine T S s) (hok : ∀ x, x ≤ 3 → a1 = nI x → OK)
    (hc : (¬ OK ∧ z = -2 ∧ T' = T) ∨ (∃ x, x ≤ 3 ∧ a1 = nI x ∧ z = nI (T x) ∧ T' = upN T x 0))
    (hm : (¬ OK ∧ z' = -2 ∧ s' = s) ∨ (∃ x l, x ≤ 3 ∧ a1 = nI x ∧ s (51 * x + 262) = nI l ∧ z' = nI l ∧ s' = upd s (51 * x + 262) 0)) : z = z' ∧ rcF na da LL LG np nf nr nt dp df dr ct pay fine T' S s' := by
  rcases hc with ⟨c1, c2, c3⟩ | ⟨x, hx, ex, c2, c3⟩
  · rcases hm with ⟨m1, m2, m3⟩ | ⟨y, l, hy, ey, _⟩
    · rw [c2, m2, c3, m3]; exact ⟨rfl, h⟩
    · exact absurd (hok y hy ey) c1
  · rcases hm with ⟨m1, _⟩ | ⟨y, l, hy, ey, el, m2, m3⟩
    · exact absurd (hok x hx ex) m1
    · obtain rfl : x = y := nI_inj (by omega) (by omega) (ex.symm.trans ey)
      rw [c2, m2, c3, m3, ← el]
      exact ⟨(h.tt x (by omega)).symm, rcF_erase h (by omega)⟩
/-- an image's book -/
def rcI (N : Nat → Nat) (E : Nat → Nat → Int32) (P : Nat → Int32) (T : Nat → Nat) (S : Nat → Nat → Int32) (W : Nat → Nat) (X : Nat → Nat → Int32) (s : Nat → Int32) : Prop := rcF (N 3) (E 3) W X (N 0) (N 1) (N 2) (N 4) (E 0) (E 1) (E 2) (E 4) (P 0) (P 1) T S s
theorem rcI_of {na : Nat} {da : Nat → Int32} {LL : Nat → Nat} {LG : Nat → Nat → Int32} {np nf nr nt : Nat} {dp df dr ct : Nat → Int32} {pay fine : Int32} {T : Nat → Nat} {S : Nat → Nat → Int32} {s : Nat → Int32} {s' : Nat → Int32} {N : Nat → Nat} {E : Nat → Nat → Int32} {P : Nat → Int32} {L : Nat → Nat} {W : Nat → Nat → Int32} {V : Nat → Nat} {X : Nat → Nat → Int32} (h : rcF na da LL LG np nf nr nt dp df dr ct pay fine T S s) (hm : ∀ k, k < 2246 → s' k = s k) (ed : eqD N E P L W V X (mkN np nf nr na nt) (mkE dp df dr da ct) (mkP pay fine) T S LL LG) : rcI N E P L W V X s' := by
  obtain ⟨u0, u1, uT, uS, e0, e1, e2, e3, e4, e5, e6, e7, e8, e9, eT, eS⟩ := ed
  exact rcF_eq h hm u0 u1 uT uS e0 e1 e2 e3 e4 e5 e6 e7 e8 e9 eT eS
theorem rcI_to {na : Nat} {da : Nat → Int32} {LL : Nat → Nat} {LG : Nat → Nat → Int32} {np nf nr nt : Nat} {dp df dr ct : Nat → Int32} {pay fine : Int32} {T : Nat → Nat} {S : Nat → Nat → Int32} {s : Nat → Int32} {s' : Nat → Int32} {N : Nat → Nat} {E : Nat → Nat → Int32} {P : Nat → Int32} {L : Nat → Nat} {W : Nat → Nat → Int32} {V : Nat → Nat} {X : Nat → Nat → Int32} (h : rcI N E P L W V X s') (hm : ∀ k, k < 2246 → s k = s' k) (ed : eqD (mkN np nf nr na nt) (mkE dp df dr da ct) (mkP pay fine) T S LL LG N E P L W V X) : rcF na da LL LG np nf nr nt dp df dr ct pay fine T S s := by
  obtain ⟨u0, u1, uT, uS, e0, e1, e2, e3, e4, e5, e6, e7, e8, e9, eT, eS⟩ := ed
  exact rcF_eq h hm u0 u1 uT uS e0 e1 e2 e3 e4 e5 e6 e7 e8 e9 eT eS
theorem rcI_keep {s s' : Nat → Int32} {N : Nat → Nat} {E : Nat → Nat → Int32} {P : Nat → Int32} {L : Nat → Nat} {W : Nat → Nat → Int32} {V : Nat → Nat} {X : Nat → Nat → Int32} (h : rcI N E P L W V X s) (hm : ∀ k, k < 2246 → s' k = s k) : rcI N E P L W V X s' :=
  rcF_un h hm
def relF (np : Nat) (dp : Nat → Int32) (nf : Nat) (df : Nat → Int32) (nr : Nat) (dr : Nat → Int32) (nt : Nat) (ct : Nat → Int32) (pay fine : Int32) (kf : Nat → Int32) (na : Nat) (da : Nat → Int32) (TL : Nat → Nat) (TG : Nat → Nat → Int32) (LL : Nat → Nat) (LG : Nat → Nat → Int32) (N1 : Nat → Nat) (E1 : Nat → Nat → Int32) (P1 : Nat → Int32) (L1 : Nat → Nat) (S1 : Nat → Nat → Int32) (W1 : Nat → Nat) (X1 : Nat → Nat → Int32) (N2 : Nat → Nat) (E2 : Nat → Nat → Int32) (P2 : Nat → Int32) (L2 : Nat → Nat) (S2 : Nat → Nat → Int32) (W2 : Nat → Nat) (X2 : Nat → Nat → Int32) (ss im kq : Nat → Int32) : Prop :=
  rcF na da LL LG np nf nr nt dp df dr ct pay fine TL TG ss ∧ (¬ kf 0 = 0 → rcI N1 E1 P1 L1 S1 W1 X1 im) ∧ (¬ kf 1 = 0 → rcI N2 E2 P2 L2 S2 W2 X2 (fun k => im (k + 2246))) ∧ kf 0 = kq 0 ∧ kf 1 = kq 1
theorem rF_image {np nf nr nt : Nat} {dp df dr ct : Nat → Int32} {pay fine : Int32} {na : Nat} {da : Nat → Int32} {LL TL L1 L2 L1' L2' N1 N2 N1' N2' W1 W2 W1' W2' : Nat → Nat} {LG TG S1 S2 S1' S2' E1 E2 E1' E2' X1 X2 X1' X2' : Nat → Nat → Int32} {P1 P2 P1' P2' : Nat → Int32} {kf kf' ss im im' kq kq' : Nat → Int32} {z z' a1 : Int32} {OK : Prop} (hOK : ∀ x : Int32, a1 = x → (x = 0 ∨ x = 1) → OK) (h : relF np dp nf df nr dr nt ct pay fine kf na da TL TG LL LG N1 E1 P1 L1 S1 W1 X1 N2 E2 P2 L2 S2 W2 X2 ss im kq)
    (hc : (¬ OK ∧ z = -2 ∧ kf' = kf ∧ N1' = N1 ∧ E1' = E1 ∧ P1' = P1 ∧ L1' = L1 ∧ S1' = S1 ∧ W1' = W1 ∧ X1' = X1 ∧ N2' = N2 ∧ E2' = E2 ∧ P2' = P2 ∧ L2' = L2 ∧ S2' = S2 ∧ W2' = W2 ∧ X2' = X2) ∨ (a1 = 0 ∧ z = 1 ∧ kf' = upd kf (Int32.toNatClampNeg 0) (vp_nar .boolean 1) ∧ eqD N1' E1' P1' L1' S1' W1' X1' (mkN np nf nr na nt) (mkE dp df dr da ct) (mkP pay fine) TL TG LL LG ∧ N2' = N2 ∧ E2' = E2 ∧ P2' = P2 ∧ L2' = L2 ∧ S2' = S2 ∧ W2' = W2 ∧ X2' = X2) ∨ (a1 = 1 ∧ z = 1 ∧ kf' = upd kf (Int32.toNatClampNeg 1) (vp_nar .boolean 1) ∧ eqD N2' E2' P2' L2' S2' W2' X2' (mkN np nf nr na nt) (mkE dp df dr da ct) (mkP pay fine) TL TG LL LG ∧ N1' = N1 ∧ E1' = E1 ∧ P1' = P1 ∧ L1' = L1 ∧ S1' = S1 ∧ W1' = W1 ∧ X1' = X1))
    (hm : (¬ OK ∧ z' = -2 ∧ im' = im ∧ kq' = kq) ∨ (a1 = 0 ∧ z' = 1 ∧ (∀ q, q < 2246 → im' q = ss q) ∧ (∀ j, 2246 ≤ j → im' j = im j) ∧ kq' = upd kq 0 (vp_nar .boolean 1)) ∨ (a1 = 1 ∧ z' = 1 ∧ (∀ q, q < 2246 → im' (q + 2246) = ss q) ∧ (∀ j, j < 2246 → im' j = im j) ∧ kq' = upd kq 1 (vp_nar .boolean 1))) : z = z' ∧ relF np dp nf df nr dr nt ct pay fine kf' na da TL TG LL LG N1' E1' P1' L1' S1' W1' X1' N2' E2' P2' L2' S2' W2' X2' ss im' kq' := by
  obtain ⟨r0, r1, r2, k0, k1⟩ := h
  rcases hc with ⟨c1, c2, rfl, rfl, rfl, rfl, rfl, rfl, rfl, rfl, rfl, rfl, rfl, rfl, rfl, rfl, rfl⟩ | ⟨c1, c2, rfl, ed, rfl, rfl, rfl, rfl, rfl, rfl, rfl⟩ | ⟨c1, c2, rfl, ed, rfl, rfl, rfl, rfl, rfl, rfl, rfl⟩
  · rcases hm with ⟨m1, m2, rfl, rfl⟩ | ⟨m1, _⟩ | ⟨m1, _⟩
    · rw [c2, m2]; exact ⟨rfl, r0, r1, r2, k0, k1⟩
    · exact absurd (hOK _ m1 (Or.inl rfl)) c1
    · exact absurd (hOK _ m1 (Or.inr rfl)) c1
  · rcases hm with ⟨m1, _⟩ | ⟨m1, m2, m3, m4, rfl⟩ | ⟨m1, _⟩
    · exact absurd (hOK _ c1 (Or.inl rfl)) m1
    · rw [c2, m2]
      exact ⟨rfl, r0, fun _ => rcI_of r0 m3 ed, fun q => rcI_keep (r2 q) (fun k hk => m4 _ (by omega)), rfl, k1⟩
    · exact absurd (c1.symm.trans m1) (by decide)
  · rcases hm with ⟨m1, _⟩ | ⟨m1, _⟩ | ⟨m1, m2, m3, m4, rfl⟩
    · exact absurd (hOK _ c1 (Or.inr rfl)) m1
    · exact absurd (c1.symm.trans m1) (by decide)
    · rw [c2, m2]
      exact ⟨rfl, r0, fun q => rcI_keep (r1 q) (fun k hk => m4 _ (by omega)), fun _ => rcI_of r0 m3 ed, k0, rfl⟩
theorem rF_from {np nf nr nt np' nf' nr' nt' : Nat} {dp df dr ct dp' df' dr' ct' : Nat → Int32} {pay fine pay' fine' : Int32} {na na' : Nat} {da da' : Nat → Int32} {LL LL' TL TL' L1 L2 N1 N2 W1 W2 : Nat → Nat} {LG LG' TG TG' S1 S2 E1 E2 X1 X2 : Nat → Nat → Int32} {P1 P2 : Nat → Int32} {kf ss ss' im kq : Nat → Int32} {z z' a1 : Int32} {OK : Prop} (hOK : ∀ x : Int32, a1 = x → (x = 0 ∨ x = 1) → OK) (h : relF np dp nf df nr dr nt ct pay fine kf na da TL TG LL LG N1 E1 P1 L1 S1 W1 X1 N2 E2 P2 L2 S2 W2 X2 ss im kq)
    (hc : (¬ OK ∧ z = -2 ∧ np' = np ∧ dp' = dp ∧ nf' = nf ∧ df' = df ∧ nr' = nr ∧ dr' = dr ∧ nt' = nt ∧ ct' = ct ∧ pay' = pay ∧ fine' = fine ∧ TL' = TL ∧ TG' = TG ∧ na' = na ∧ da' = da ∧ LL' = LL ∧ LG' = LG) ∨ (a1 = 0 ∧ ((kf (Int32.toNatClampNeg 0) = 0 ∧ z = -3 ∧ np' = np ∧ dp' = dp ∧ nf' = nf ∧ df' = df ∧ nr' = nr ∧ dr' = dr ∧ nt' = nt ∧ ct' = ct ∧ pay' = pay ∧ fine' = fine ∧ TL' = TL ∧ TG' = TG ∧ na' = na ∧ da' = da ∧ LL' = LL ∧ LG' = LG) ∨ (¬ kf (Int32.toNatClampNeg 0) = 0 ∧ z = 1 ∧ eqD (mkN np' nf' nr' na' nt') (mkE dp' df' dr' da' ct') (mkP pay' fine') TL' TG' LL' LG' N1 E1 P1 L1 S1 W1 X1))) ∨ (a1 = 1 ∧ ((kf (Int32.toNatClampNeg 1) = 0 ∧ z = -3 ∧ np' = np ∧ dp' = dp ∧ nf' = nf ∧ df' = df ∧ nr' = nr ∧ dr' = dr ∧ nt' = nt ∧ ct' = ct ∧ pay' = pay ∧ fine' = fine ∧ TL' = TL ∧ TG' = TG ∧ na' = na ∧ da' = da ∧ LL' = LL ∧ LG' = LG) ∨ (¬ kf (Int32.toNatClampNeg 1) = 0 ∧ z = 1 ∧ eqD (mkN np' nf' nr' na' nt') (mkE dp' df' dr' da' ct') (mkP pay' fine') TL' TG' LL' LG' N2 E2 P2 L2 S2 W2 X2))))
    (hm : (¬ OK ∧ z' = -2 ∧ ss' = ss) ∨ (∃ x, x ≤ 1 ∧ a1 = nI x ∧ ((kq x = 0 ∧ z' = -3 ∧ ss' = ss) ∨ (¬ kq x = 0 ∧ z' = 1 ∧ ∀ q, q < 2246 → ss' q = im (q + 2246 * x))))) : z = z' ∧ relF np' dp' nf' df' nr' dr' nt' ct' pay' fine' kf na' da' TL' TG' LL' LG' N1 E1 P1 L1 S1 W1 X1 N2 E2 P2 L2 S2 W2 X2 ss' im kq := by
  obtain ⟨r0, r1, r2, k0, k1⟩ := h
  have k0 : kf (Int32.toNatClampNeg 0) = kq 0 := k0
  have k1 : kf (Int32.toNatClampNeg 1) = kq 1 := k1
  rcases hc with ⟨c1, c2, rfl, rfl, rfl, rfl, rfl, rfl, rfl, rfl, rfl, rfl, rfl, rfl, rfl, rfl, rfl, rfl⟩ | ⟨c1, hc⟩ | ⟨c1, hc⟩
  · rcases hm with ⟨m1, m2, rfl⟩ | ⟨x, hx, ex, _⟩
    · rw [c2, m2]; exact ⟨rfl, r0, r1, r2, k0, k1⟩
    · rcases (show x = 0 ∨ x = 1 by omega) with rfl | rfl
      · exact absurd (hOK _ ex (Or.inl rfl)) c1
      · exact absurd (hOK _ ex (Or.inr rfl)) c1
  · rcases hm with ⟨m1, _⟩ | ⟨x, hx, ex, hm⟩
    · exact absurd (hOK _ c1 (Or.inl rfl)) m1
    · have e : x = 0 := nI_inj (by omega) (by omega) (ex.symm.trans c1)
      subst e
      rcases hc with ⟨c0, c2, rfl, rfl, rfl, rfl, rfl, rfl, rfl, rfl, rfl, rfl, rfl, rfl, rfl, rfl, rfl, rfl⟩ | ⟨c0, c2, ed⟩
      · rcases hm with ⟨m0, m2, rfl⟩ | ⟨m0, _⟩
        · rw [c2, m2]; exact ⟨rfl, r0, r1, r2, k0, k1⟩
        · exact absurd (k0.symm.trans c0) m0
      · rcases hm with ⟨m0, _⟩ | ⟨m0, m2, m3⟩
        · exact absurd (k0.trans m0) c0
        · rw [c2, m2]
          exact ⟨rfl, rcI_to (r1 c0) m3 ed, r1, r2, k0, k1⟩
  · rcases hm with ⟨m1, _⟩ | ⟨x, hx, ex, hm⟩
    · exact absurd (hOK _ c1 (Or.inr rfl)) m1
    · have e : x = 1 := nI_inj (by omega) (by omega) (ex.symm.trans c1)
      subst e
      rcases hc with ⟨c0, c2, rfl, rfl, rfl, rfl, rfl, rfl, rfl, rfl, rfl, rfl, rfl, rfl, rfl, rfl, rfl, rfl⟩ | ⟨c0, c2, ed⟩
      · rcases hm with ⟨m0, m2, rfl⟩ | ⟨m0, _⟩
        · rw [c2, m2]; exact ⟨rfl, r0, r1, r2, k0, k1⟩
        · exact absurd (k1.symm.trans c0) m0
      · rcases hm with ⟨m0, _⟩ | ⟨m0, m2, m3⟩
        · exact absurd (k1.trans m0) c0
        · rw [c2, m2]
          exact ⟨rfl, rcI_to (r2 c0) m3 ed, r1, r2, k0, k1⟩
theorem rcF_start : rcF 0 (fun _ => 0) (fun _ => 0) (fun _ _ => 0) 0 0 0 0 (fun _ => 0) (fun _ => 0) (fun _ => 0) (fun _ => 0) 5 20 (fun _ => 0) (fun _ _ => 0) (upd (upd (fun _ => 0) 5 5) 6 20) :=
  ⟨rfl, rfl, rfl, rfl, by omega, by omega, by omega, by omega, rfl, rfl, fun k hk => by omega, fun k hk => by omega, fun k hk => by omega, fun t ht => by omega, fun t ht => by omega, fun _ _ _ => rfl, fun x hx => (pk_un (by omega)).trans ((pk_un (by omega)).trans rfl), fun x hx => Nat.zero_le _, fun x hx k hk => absurd hk (Nat.not_lt_zero _), fun t ht => by omega, rfl, by omega, fun i hi => by omega, fun i hi => by omega, fun i hi => by omega, fun i hi => by omega, ⟨fun z hz => absurd hz (Nat.not_lt_zero _), fun a b _ hb => absurd hb (Nat.not_lt_zero _), fun z hz => absurd hz (Nat.not_lt_zero _), fun z hz => absurd hz (Nat.not_lt_zero _)⟩⟩
theorem rcF_act {na : Nat} {da : Nat → Int32} {LL : Nat → Nat} {LG : Nat → Nat → Int32} {np nf nr nt : Nat} {dp df dr ct : Nat → Int32} {pay fine : Int32} {T : Nat → Nat} {S : Nat → Nat → Int32} {s : Nat → Int32} {x l : Nat} {a2 a3 : Int32} {s4 sg : Nat → Int32} (h : rcF na da LL LG np nf nr nt dp df dr ct pay fine T S s) (hn : na < 20) (hx : x < 4) (hg : ∀ i, i < 50 → sg i = S x i) (h4 : ∀ j, (∀ q, q < 51 → j ≠ q + 54 * na + 469) → s4 j = (upd (upd (upd s (54 * na + 466) a2) (54 * na + 467) a3) (54 * na + 468) (-1)) j) (h5 : ∀ q, q < 51 → s4 (q + 54 * na + 469) = s (q + 51 * x + 262)) : rcF (na + 1) (upd (upd (upd da (Int32.toNatClampNeg (nI na * nI 3 + 0)) a2) (Int32.toNatClampNeg (nI na * nI 3 + 1)) a3) (Int32.toNatClampNeg (nI na * nI 3 + 2)) (-1)) (upN LL na (T x)) (upN LG na sg) np nf nr nt dp df dr ct pay fine T S (upd s4 3 (nI (na + 1))) := by
  have b3 := h.b3
  have b0 := h.b0
  have b1 := h.b1
  have b2 := h.b2
  have b4 := h.b4
  rw [show Int32.toNatClampNeg (nI na * nI 3 + 0) = 3 * na + 0 from ixN (c := 0) (by omega)]
  rw [show Int32.toNatClampNeg (nI na * nI 3 + 1) = 3 * na + 1 from ixN (c := 1) (by omega)]
  rw [show Int32.toNatClampNeg (nI na * nI 3 + 2) = 3 * na + 2 from ixN (c := 2) (by omega)]
  have ot : ∀ j, (j < 54 * na + 466 ∨ 54 * na + 520 ≤ j) → s4 j = s j := fun j hj => (h4 j (fun q hq => by omega)).trans ((pk_un (by omega)).trans ((pk_un (by omega)).trans (pk_un (by omega))))
  have hTx := h.tb x hx
  have ha : ∀ i, i < na + 1 → ∀ c, c < 3 → (upd s4 3 (nI (na + 1))) (54 * i + c + 466) = (upd (upd (upd da (3 * na + 0) a2) (3 * na + 1) a3) (3 * na + 2) (-1)) (3 * i + c) := by
    intro i hi c hc
    rw [pk_un (by omega)]
    by_cases e : i = na
    · subst e
      rw [h4 _ (fun q hq => by omega)]
      rcases (show c = 0 ∨ c = 1 ∨ c = 2 by omega) with rfl | rfl | rfl
      · rw [pk_un (by omega), pk_un (by omega), show 54 * i + 0 + 466 = 54 * i + 466 by omega, pk_us, pk_un (by omega), pk_un (by omega), pk_us]
      · rw [pk_un (by omega), show 54 * i + 1 + 466 = 54 * i + 467 by omega, pk_us, pk_un (by omega), pk_us]
      · rw [show 54 * i + 2 + 466 = 54 * i + 468 by omega, pk_us, pk_us]
    · rw [ot _ (by omega), pk_un (by omega), pk_un (by omega), pk_un (by omega)]
      exact h.a3 i (by omega) c hc
  have hl : ∀ i, i < na + 1 → (upd s4 3 (nI (na + 1))) (54 * i + 469) = nI (upN LL na (T x) i) := by
    intro i hi
    rw [pk_un (by omega)]
    by_cases e : i = na
    · subst e
      have h9 := h5 0 (by omega)
      rw [Nat.zero_add, Nat.zero_add] at h9
      rw [upN_s, h9]; exact h.tt x hx
    · rw [upN_o e, ot _ (by omega)]; exact h.l3 i (by omega)
  have hm : ∀ i, i < na + 1 → upN LL na (T x) i ≤ 50 := by
    intro i hi
    by_cases e : i = na
    · subst e; rw [upN_s]; exact hTx
    · rw [upN_o e]; exact h.m3 i (by omega)
  have hgg : ∀ i, i < na + 1 → ∀ k, k < upN LL na (T x) i → (upd s4 3 (nI (na + 1))) (54 * i + k + 470) = upN LG na sg i k := by
    intro i hi k hk
    have h50 := hm i hi
    rw [pk_un (by omega)]
    by_cases e : i = na
    · subst e
      rw [upN_s] at hk ⊢
      have h9 := h5 (k + 1) (by omega)
      rw [show k + 1 + 54 * i + 469 = 54 * i + k + 470 by omega] at h9
      rw [h9, hg k (by omega), show k + 1 + 51 * x + 262 = 51 * x + k + 263 by omega]
      exact h.ts x hx k hk
    · rw [upN_o e] at hk ⊢
      have h51 := h.m3 i (by omega)
      rw [ot _ (by omega)]; exact h.g3 i (by omega) k hk
  exact ⟨((pk_un (by omega)).trans (ot _ (by omega))).trans h.n0, ((pk_un (by omega)).trans (ot _ (by omega))).trans h.n1, ((pk_un (by omega)).trans (ot _ (by omega))).trans h.n2, ((pk_un (by omega)).trans (ot _ (by omega))).trans h.n4, h.b0, h.b1, h.b2, h.b4, ((pk_un (by omega)).trans (ot _ (by omega))).trans h.p0, ((pk_un (by omega)).trans (ot _ (by omega))).trans h.p1, fun k hk => ((pk_un (by omega)).trans (ot _ (by omega))).trans (h.e0 k hk), fun k hk => ((pk_un (by omega)).trans (ot _ (by omega))).trans (h.e1 k hk), fun k hk => ((pk_un (by omega)).trans (ot _ (by omega))).trans (h.e2 k hk), fun t ht c hc => ((pk_un (by omega)).trans (ot _ (by omega))).trans (h.e4 t ht c hc), fun t ht c hc => ((pk_un (by omega)).trans (ot _ (by omega))).trans (h.l4 t ht c hc), h.z4, fun x hx => ((pk_un (by omega)).trans (ot _ (by omega))).trans (h.tt x hx), h.tb, fun x hx k hk => by have := h.tb x hx; exact ((pk_un (by omega)).trans (ot _ (by omega))).trans (h.ts x hx k hk), h.d4, pk_us, by omega, ha, hl, hm, hgg, h.tc⟩
theorem rF_act {na : Nat} {da : Nat → Int32} {LL : Nat → Nat} {LG : Nat → Nat → Int32} {np nf nr nt : Nat} {dp df dr ct : Nat → Int32} {pay fine : Int32} {T : Nat → Nat} {S : Nat → Nat → Int32} {s : Nat → Int32} {np9 nf9 nr9 na9 nt9 : Nat} {na' : Nat} {da' : Nat → Int32} {LL' : Nat → Nat} {LG' : Nat → Nat → Int32} {s' : Nat → Int32} {z z' a1 a2 a3 : Int32} {OK : Prop} (h : rcF na da LL LG np nf nr nt dp df dr ct pay fine T S s) (hs : stOK s np9 nf9 nr9 na9 nt9) (hok : OK → ∃ x, x ≤ 3 ∧ a1 = nI x)
    (hc : (¬ OK ∧ z = -2 ∧ na' = na ∧ da' = da ∧ LL' = LL ∧ LG' = LG) ∨ (OK ∧ ∃ x, x ≤ 3 ∧ a1 = nI x ∧ ((¬ rdA (T x) (S x) = -1 ∧ z = -3 ∧ na' = na ∧ da' = da ∧ LL' = LL ∧ LG' = LG) ∨ (rdA (T x) (S x) = -1 ∧ ¬ na < 20 ∧ z = -4 ∧ na' = na ∧ da' = da ∧ LL' = LL ∧ LG' = LG) ∨ (rdA (T x) (S x) = -1 ∧ na < 20 ∧ z = nI na ∧ na' = na + 1 ∧ da' = upd (upd (upd da (Int32.toNatClampNeg (nI na * nI 3 + 0)) a2) (Int32.toNatClampNeg (nI na * nI 3 + 1)) a3) (Int32.toNatClampNeg (nI na * nI 3 + 2)) (-1) ∧ LL' = upN LL na (T x) ∧ ∃ sg, LG' = upN LG na sg ∧ ∀ i, i < 50 → sg i = S x i))))
    (hm : (¬ OK ∧ z' = -2 ∧ s' = s) ∨ (OK ∧ ∃ x l, x ≤ 3 ∧ a1 = nI x ∧ l ≤ 50 ∧ s (51 * x + 262) = nI l ∧ ((¬ rdA l (fun k => s (51 * x + 262 + k + 1)) = -1 ∧ z' = -3 ∧ s' = s) ∨ (rdA l (fun k => s (51 * x + 262 + k + 1)) = -1 ∧ na9 = 20 ∧ z' = -4 ∧ s' = s) ∨ (rdA l (fun k => s (51 * x + 262 + k + 1)) = -1 ∧ na9 < 20 ∧ z' = nI na9 ∧ ∃ s4, s' = upd s4 3 (nI (na9 + 1)) ∧ (∀ j, (∀ q, q < 51 → j ≠ q + 54 * na9 + 469) → s4 j = (upd (upd (upd s (54 * na9 + 466) a2) (54 * na9 + 467) a3) (54 * na9 + 468) (-1)) j) ∧ ∀ q, q < 51 → s4 (q + 54 * na9 + 469) = s (q + 51 * x + 262))))) : z = z' ∧ rcF na' da' LL' LG' np nf nr nt dp df dr ct pay fine T S s' := by
  have b3 := h.b3
  have b0 := h.b0
  have b1 := h.b1
  have b2 := h.b2
  have b4 := h.b4
  obtain rfl : np = np9 := nI_inj (by omega) (by have := hs.c0; omega) (h.n0.symm.trans hs.h0)
  obtain rfl : nf = nf9 := nI_inj (by omega) (by have := hs.c1; omega) (h.n1.symm.trans hs.h1)
  obtain rfl : nr = nr9 := nI_inj (by omega) (by have := hs.c2; omega) (h.n2.symm.trans hs.h2)
  obtain rfl : na = na9 := nI_inj (by omega) (by have := hs.c3; omega) (h.n3.symm.trans hs.h3)
  obtain rfl : nt = nt9 := nI_inj (by omega) (by have := hs.c4; omega) (h.n4.symm.trans hs.h4)
  rcases hc with ⟨c1, c2, rfl, rfl, rfl, rfl⟩ | ⟨c1, x, hx, ex, hc⟩
  · rcases hm with ⟨m1, m2, rfl⟩ | ⟨m1, _⟩
    · rw [c2, m2]; exact ⟨rfl, h⟩
    · exact absurd m1 c1
  · rcases hm with ⟨m1, _⟩ | ⟨m1, y, l, hy, ey, hl, el, hm⟩
    · exact absurd c1 m1
    · obtain rfl : x = y := nI_inj (by omega) (by omega) (ex.symm.trans ey)
      obtain rfl : T x = l := nI_inj (h.tb x (by omega)) hl ((h.tt x (by omega)).symm.trans el)
      have er : rdA (T x) (fun k => s (51 * x + 262 + k + 1)) = rdA (T x) (S x) := rdA_congr (fun k hk => by
        rw [show 51 * x + 262 + k + 1 = 51 * x + k + 263 by omega]
        exact h.ts x (by omega) k hk)
      rw [er] at hm
      rcases hc with ⟨c3, c2, rfl, rfl, rfl, rfl⟩ | ⟨c3, c4, c2, rfl, rfl, rfl, rfl⟩ | ⟨c3, c4, c2, rfl, rfl, rfl, sg, rfl, hg⟩
      · rcases hm with ⟨m3, m2, rfl⟩ | ⟨m3, _⟩ | ⟨m3, _⟩
        · rw [c2, m2]; exact ⟨rfl, h⟩
        · exact absurd m3 c3
        · exact absurd m3 c3
      · rcases hm with ⟨m3, _⟩ | ⟨m3, m4, m2, rfl⟩ | ⟨m3, m4, _⟩
        · exact absurd c3 m3
        · rw [c2, m2]; exact ⟨rfl, h⟩
        · exact absurd m4 c4
      · rcases hm with ⟨m3, _⟩ | ⟨m3, m4, _⟩ | ⟨m3, m4, m2, s4, rfl, h4, h5⟩
        · exact absurd c3 m3
        · omega
        · rw [c2, m2]; exact ⟨rfl, rcF_act (l := 0) h c4 (by omega) hg h4 h5⟩
theorem rcF_so {na : Nat} {da : Nat → Int32} {LL : Nat → Nat} {LG : Nat → Nat → Int32} {np nf nr nt : Nat} {dp df dr ct : Nat → Int32} {pay fine : Int32} {T : Nat → Nat} {S : Nat → Nat → Int32} {s : Nat → Int32} {x : Nat} {v : Int32} (h : rcF na da LL LG np nf nr nt dp df dr ct pay fine T S s) (hx : x < na) : rcF na (upd da (3 * x + 2) v) LL LG np nf nr nt dp df dr ct pay fine T S (upd s (54 * x + 468) v) := by
  have b3 := h.b3
  have b0 := h.b0
  have b1 := h.b1
  have b2 := h.b2
  have b4 := h.b4
  have ha : ∀ i, i < na → ∀ c, c < 3 → (upd s (54 * x + 468) v) (54 * i + c + 466) = (upd da (3 * x + 2) v) (3 * i + c) := by
    intro i hi c hc
    by_cases e : i = x ∧ c = 2
    · obtain ⟨rfl, rfl⟩ := e
      rw [show 54 * i + 2 + 466 = 54 * i + 468 by omega]
      exact pk_us.trans pk_us.symm
    · exact (pk_un (by omega)).trans ((h.a3 i hi c hc).trans (pk_un (by omega)).symm)
  exact ⟨((pk_un (by omega))).trans h.n0, ((pk_un (by omega))).trans h.n1, ((pk_un (by omega))).trans h.n2, ((pk_un (by omega))).trans h.n4, h.b0, h.b1, h.b2, h.b4, ((pk_un (by omega))).trans h.p0, ((pk_un (by omega))).trans h.p1, fun k hk => ((pk_un (by omega))).trans (h.e0 k hk), fun k hk => ((pk_un (by omega))).trans (h.e1 k hk), fun k hk => ((pk_un (by omega))).trans (h.e2 k hk), fun t ht c hc => ((pk_un (by omega))).trans (h.e4 t ht c hc), fun t ht c hc => ((pk_un (by omega))).trans (h.l4 t ht c hc), h.z4, fun x hx => ((pk_un (by omega))).trans (h.tt x hx), h.tb, fun x hx k hk => by have := h.tb x hx; exact ((pk_un (by omega))).trans (h.ts x hx k hk), h.d4, ((pk_un (by omega))).trans h.n3, h.b3, ha, fun i hi => ((pk_un (by omega))).trans (h.l3 i hi), h.m3, fun i hi k hk => by have h50 := h.m3 i hi; exact ((pk_un (by omega))).trans (h.g3 i hi k hk), h.tc⟩
theorem rF_strikeOut {na : Nat} {da : Nat → Int32} {LL : Nat → Nat} {LG : Nat → Nat → Int32} {np nf nr nt : Nat} {dp df dr ct : Nat → Int32} {pay fine : Int32} {T : Nat → Nat} {S : Nat → Nat → Int32} {s : Nat → Int32} {np9 nf9 nr9 na9 nt9 : Nat} {da' s' : Nat → Int32} {z z' a1 a2 : Int32} (h : rcF na da LL LG np nf nr nt dp df dr ct pay fine T S s) (hs : stOK s np9 nf9 nr9 na9 nt9)
    (hc : (¬ (inN a1 na = true ∧ inB 0 a2 9999 = true) ∧ z = -2 ∧ da' = da) ∨ (inB 0 a2 9999 = true ∧ ∃ x, x < na ∧ a1 = nI x ∧ ((¬ atv da na 3 (nI x) 2 = -1 ∧ z = -3 ∧ da' = da) ∨ (atv da na 3 (nI x) 2 = -1 ∧ z = 1 ∧ da' = upd da (Int32.toNatClampNeg (nI x * nI 3 + 2)) a2))))
    (hm : (¬ (inN a1 na9 = true ∧ inB 0 a2 9999 = true) ∧ z' = -2 ∧ s' = s) ∨ (inB 0 a2 9999 = true ∧ ∃ x, x < na9 ∧ a1 = nI x ∧ ((¬ s (54 * x + 468) = -1 ∧ z' = -3 ∧ s' = s) ∨ (s (54 * x + 468) = -1 ∧ z' = 1 ∧ s' = upd s (54 * x + 468) a2)))) : z = z' ∧ rcF na da' LL LG np nf nr nt dp df dr ct pay fine T S s' := by
  have b3 := h.b3
  have b0 := h.b0
  have b1 := h.b1
  have b2 := h.b2
  have b4 := h.b4
  obtain rfl : np = np9 := nI_inj (by omega) (by have := hs.c0; omega) (h.n0.symm.trans hs.h0)
  obtain rfl : nf = nf9 := nI_inj (by omega) (by have := hs.c1; omega) (h.n1.symm.trans hs.h1)
  obtain rfl : nr = nr9 := nI_inj (by omega) (by have := hs.c2; omega) (h.n2.symm.trans hs.h2)
  obtain rfl : na = na9 := nI_inj (by omega) (by have := hs.c3; omega) (h.n3.symm.trans hs.h3)
  obtain rfl : nt = nt9 := nI_inj (by omega) (by have := hs.c4; omega) (h.n4.symm.trans hs.h4)
  rcases hc with ⟨c1, c2, rfl⟩ | ⟨c1, x, hx, ex, hc⟩
  · rcases hm with ⟨m1, m2, rfl⟩ | ⟨m1, y, hy, ey, _⟩
    · rw [c2, m2]; exact ⟨rfl, h⟩
    · exact absurd ⟨by rw [ey]; exact inN_n hy (by omega), m1⟩ c1
  · rcases hm with ⟨m1, _⟩ | ⟨m1, y, hy, ey, hm⟩
    · exact absurd ⟨by rw [ex]; exact inN_n hx (by omega), c1⟩ m1
    · obtain rfl : x = y := nI_inj (by omega) (by omega) (ex.symm.trans ey)
      have ev : s (54 * x + 468) = da (3 * x + 2) := h.a3 x hx 2 (by omega)
      rw [show (2 : Int32) = nI 2 from rfl, atN hx (by omega) (by omega) (by omega), ixN (by omega)] at hc
      rw [ev] at hm
      rcases hc with ⟨c3, c2, rfl⟩ | ⟨c3, c2, rfl⟩
      · rcases hm with ⟨m3, m2, rfl⟩ | ⟨m3, _⟩
        · rw [c2, m2]; exact ⟨rfl, h⟩
        · exact absurd m3 c3
      · rcases hm with ⟨m3, _⟩ | ⟨m3, m2, rfl⟩
        · exact absurd c3 m3
        · rw [c2, m2]; exact ⟨rfl, rcF_so h hx⟩
theorem inB_03 : ∀ x, x ≤ 3 → inB 0 (nI x) 3 = true := by decide
theorem rF_rollOf {na : Nat} {da : Nat → Int32} {LL : Nat → Nat} {LG : Nat → Nat → Int32} {np nf nr nt : Nat} {dp df dr ct : Nat → Int32} {pay fine : Int32} {T : Nat → Nat} {S : Nat → Nat → Int32} {s : Nat → Int32} {np9 nf9 nr9 na9 nt9 : Nat} {z z' a1 : Int32} {OK : Prop} [Decidable OK] (h : rcF na da LL LG np nf nr nt dp df dr ct pay fine T S s) (hs : stOK s np9 nf9 nr9 na9 nt9) (hc : z = (if OK then rlV np nr (fun i c => dr (3 * i + c)) a1 else -2)) (hm : z' = (if OK then rlV np9 nr9 (fun i c => s (3 * i + c + 250)) a1 else -2)) : z = z' := by
  have b3 := h.b3
  have b0 := h.b0
  have b1 := h.b1
  have b2 := h.b2
  have b4 := h.b4
  obtain rfl : np = np9 := nI_inj (by omega) (by have := hs.c0; omega) (h.n0.symm.trans hs.h0)
  obtain rfl : nf = nf9 := nI_inj (by omega) (by have := hs.c1; omega) (h.n1.symm.trans hs.h1)
  obtain rfl : nr = nr9 := nI_inj (by omega) (by have := hs.c2; omega) (h.n2.symm.trans hs.h2)
  obtain rfl : na = na9 := nI_inj (by omega) (by have := hs.c3; omega) (h.n3.symm.trans hs.h3)
  obtain rfl : nt = nt9 := nI_inj (by omega) (by have := hs.c4; omega) (h.n4.symm.trans hs.h4)
  rw [hc, hm, rlV_congr (R := fun i c => dr (3 * i + c)) (R' := fun i c => s (3 * i + c + 250)) (fun i hi c hc => (h.e2 (3 * i + c) (by omega)).symm)]
theorem rF_fault {na : Nat} {da : Nat → Int32} {LL : Nat → Nat} {LG : Nat → Nat → Int32} {np nf nr nt : Nat} {dp df dr ct : Nat → Int32} {pay fine : Int32} {T : Nat → Nat} {S : Nat → Nat → Int32} {s : Nat → Int32} {z z' a1 : Int32} {OK : Prop} (h : rcF na da LL LG np nf nr nt dp df dr ct pay fine T S s) (hok : ∀ x, x ≤ 3 → a1 = nI x → OK) (hc : (¬ OK ∧ z = -2) ∨ (∃ x, x ≤ 3 ∧ a1 = nI x ∧ z = rdA (T x) (S x))) (hm : (¬ OK ∧ z' = -2) ∨ (∃ x l, x ≤ 3 ∧ a1 = nI x ∧ l ≤ 50 ∧ s (51 * x + 262) = nI l ∧ z' = rdA l (fun k => s (51 * x + 262 + k + 1)))) : z = z' := by
  rcases hc with ⟨c1, c2⟩ | ⟨x, hx, ex, c2⟩
  · rcases hm with ⟨m1, m2⟩ | ⟨y, l, hy, ey, _⟩
    · rw [c2, m2]
    · exact absurd (hok y hy ey) c1
  · rcases hm with ⟨m1, _⟩ | ⟨y, l, hy, ey, hl5, el, m2⟩
    · exact absurd (hok x hx ex) m1
    · obtain rfl : x = y := nI_inj (by omega) (by omega) (ex.symm.trans ey)
      have h1 := h.tt x (by omega)
      have h2 := h.tb x (by omega)
      have hl : l = T x := nI_inj hl5 h2 (el.symm.trans h1)
      subst hl
      rw [c2, m2]
      refine rdA_congr (fun k hk => ?_)
      rw [show 51 * x + 262 + k + 1 = 51 * x + k + 263 by omega]
      exact (h.ts x (by omega) k hk).symm
theorem rF_force {na : Nat} {da : Nat → Int32} {LL : Nat → Nat} {LG : Nat → Nat → Int32} {np nf nr nt : Nat} {dp df dr ct : Nat → Int32} {pay fine : Int32} {T : Nat → Nat} {S : Nat → Nat → Int32} {s : Nat → Int32} {np9 nf9 nr9 na9 nt9 : Nat} {z z' a1 a2 : Int32} {OK : Prop} (h : rcF na da LL LG np nf nr nt dp df dr ct pay fine T S s) (hs : stOK s np9 nf9 nr9 na9 nt9) (hc : (¬ OK ∧ z = -2) ∨ (OK ∧ z = fo (fcB (fun i c => da (3 * i + c)) a1 a2 na))) (hm : (¬ OK ∧ z' = -2) ∨ (OK ∧ z' = fo (fcB (fun i c => s (54 * i + c + 466)) a1 a2 na9))) : z = z' := by
  have b3 := h.b3
  have b0 := h.b0
  have b1 := h.b1
  have b2 := h.b2
  have b4 := h.b4
  obtain rfl : np = np9 := nI_inj (by omega) (by have := hs.c0; omega) (h.n0.symm.trans hs.h0)
  obtain rfl : nf = nf9 := nI_inj (by omega) (by have := hs.c1; omega) (h.n1.symm.trans hs.h1)
  obtain rfl : nr = nr9 := nI_inj (by omega) (by have := hs.c2; omega) (h.n2.symm.trans hs.h2)
  obtain rfl : na = na9 := nI_inj (by omega) (by have := hs.c3; omega) (h.n3.symm.trans hs.h3)
  obtain rfl : nt = nt9 := nI_inj (by omega) (by have := hs.c4; omega) (h.n4.symm.trans hs.h4)
  rcases hc with ⟨c1, c2⟩ | ⟨c1, c2⟩
  · rcases hm with ⟨m1, m2⟩ | ⟨m1, m2⟩
    · rw [c2, m2]
    · exact absurd m1 c1
  · rcases hm with ⟨m1, m2⟩ | ⟨m1, m2⟩
    · exact absurd c1 m1
    · rw [c2, m2, fcB_congr (A := fun i c => da (3 * i + c)) (A' := fun i c => s (54 * i + c + 466)) (fun i hi c hc => (h.a3 i hi c hc).symm) na (Nat.le_refl _)]
/-! ===== what follows from the relation (behind 86.rel) ===== -/
section RQ
variable {na : Nat} {da : Nat → Int32} {LL : Nat → Nat} {LG : Nat → Nat → Int32} {np nf nr nt : Nat} {dp df dr ct : Nat → Int32} {pay fine : Int32} {T : Nat → Nat} {S : Nat → Nat → Int32} {s : Nat → Int32}
theorem rcF_trOK (h : rcF na da LL LG np nf nr nt dp df dr ct pay fine T S s) (hc : trC ct nt) : ∀ n : Nat, n ≤ 10 → s 4 = nI n → trOK s n := by
  intro n hn e
  have b4 := h.b4
  obtain rfl : nt = n := nI_inj (by omega) (by omega) (h.n4.symm.trans e)
  have e4 : ∀ t, t < nt → ∀ c, c < 10 → s (10 * t + (c + 1546)) = ct (70 * t + c) := fun t ht c hc => by rw [← Nat.add_assoc]; exact h.e4 t ht c hc
  refine ⟨fun t ht => ?_, fun o t h1 h2 => ?_⟩
  · obtain ⟨⟨d, hd, f0⟩, g, g1, g2, f1⟩ := hc.2.2.2 t ht
    obtain ⟨_, _, k, _, _, _, _, f2, hk⟩ := hc.1 t ht
    exact ⟨⟨d, hd, (e4 t ht 0 (by omega)).trans f0⟩, ⟨g, g1, g2, (e4 t ht 1 (by omega)).trans f1⟩, k, hk, (e4 t ht 2 (by omega)).trans f2⟩
  · have h3 := hc.2.1 o t h1 h2
    rw [show s (10 * o + 1546) = ct (70 * o + 0) from e4 o (by omega) 0 (by omega), show s (10 * t + 1546) = ct (70 * t + 0) from e4 t h2 0 (by omega)]
    exact Int32.not_lt.mp h3
theorem rcF_row (h : rcF na da LL LG np nf nr nt dp df dr ct pay fine T S s) {t : Nat} (ht : t < nt) : ∀ c, c < 70 → ct (70 * t + c) = kS s t c := by
  intro c hc
  unfold kS
  by_cases e : c < 10
  · rw [if_pos e]; exact (h.e4 t ht c e).symm
  · rw [if_neg e]
    have h1 := h.l4 t ht (c - 10) (by omega)
    rw [show 70 * t + (c - 10) + 10 = 70 * t + c by omega] at h1
    exact h1.symm
theorem rcF_hear (h : rcF na da LL LG np nf nr nt dp df dr ct pay fine T S s) {t : Nat} (ht : t < nt) : cJr np nf nr na dp df dr da ct LL LG t = rJr np nf nr na s t ∧ cFt np nf nr na dp df dr da ct LL LG t = rFt np nf nr na s t ∧ cBx np nf nr na dp df dr da ct LL LG t = rBx np nf nr na s t :=
  hear_congr (np := np) (nf := nf) (nr := nr) (na := na) (n := nt) (P := fun i c => dp (4 * i + c)) (P' := fun i c => s (4 * i + c + 10)) (F := fun i c => df (3 * i + c)) (F' := fun i c => s (3 * i + c + 130)) (R := fun i c => dr (3 * i + c)) (R' := fun i c => s (3 * i + c + 250)) (A := fun i c => da (3 * i + c)) (A' := fun i c => s (54 * i + c + 466)) (T := fun t c => ct (70 * t + c)) (T' := fun t c => s (10 * t + c + 1546)) (K := fun t c => ct (70 * t + c)) (K' := kS s) (LO := fun z => rdO (LL z) (LG z)) (LO' := rL s)
    (fun i hi c hc => (h.e0 (4 * i + c) (by omega)).symm) (fun i hi c hc => (h.e1 (3 * i + c) (by omega)).symm) (fun i hi c hc => (h.e2 (3 * i + c) (by omega)).symm) (fun i hi c hc => (h.a3 i hi c hc).symm)
    (fun z hz => by
      have m3 := h.m3 z hz
      show rdO (LL z) (LG z) = rdO (s (54 * z + 469)).toNatClampNeg (fun k => s (54 * z + 469 + k + 1))
      rw [h.l3 z hz, nI_clamp (by omega)]
      refine rdO_congr (fun k hk => ?_)
      show LG z k = s (54 * z + 469 + k + 1)
      rw [show 54 * z + 469 + k + 1 = 54 * z + k + 470 by omega]
      exact (h.g3 z hz k hk).symm)
    (fun q hq c hc => (h.e4 q hq c hc).symm) (fun q hq c hc => rcF_row h hq c hc) ht
end RQ
theorem rQ_box {na : Nat} {da : Nat → Int32} {LL : Nat → Nat} {LG : Nat → Nat → Int32} {np nf nr nt : Nat} {dp df dr ct : Nat → Int32} {pay fine : Int32} {T : Nat → Nat} {S : Nat → Nat → Int32} {s : Nat → Int32} {np9 nf9 nr9 na9 nt9 : Nat} {z z' a1 : Int32} (h : rcF na da LL LG np nf nr nt dp df dr ct pay fine T S s) (hs : stOK s np9 nf9 nr9 na9 nt9) (hc : (¬ inN a1 nt = true ∧ z = -2) ∨ (∃ x, x < nt ∧ a1 = nI x ∧ z = (cBx np nf nr na dp df dr da ct LL LG x))) (hm : (¬ inN a1 nt9 = true ∧ z' = -2) ∨ (∃ x, x < nt9 ∧ a1 = nI x ∧ z' = (rBx np9 nf9 nr9 na9 s x))) : z = z' := by
  have b3 := h.b3
  have b0 := h.b0
  have b1 := h.b1
  have b2 := h.b2
  have b4 := h.b4
  obtain rfl : np = np9 := nI_inj (by omega) (by have := hs.c0; omega) (h.n0.symm.trans hs.h0)
  obtain rfl : nf = nf9 := nI_inj (by omega) (by have := hs.c1; omega) (h.n1.symm.trans hs.h1)
  obtain rfl : nr = nr9 := nI_inj (by omega) (by have := hs.c2; omega) (h.n2.symm.trans hs.h2)
  obtain rfl : na = na9 := nI_inj (by omega) (by have := hs.c3; omega) (h.n3.symm.trans hs.h3)
  obtain rfl : nt = nt9 := nI_inj (by omega) (by have := hs.c4; omega) (h.n4.symm.trans hs.h4)
  rcases hc with ⟨c1, c2⟩ | ⟨x, hx, ex, c2⟩
  · rcases hm with ⟨_, m2⟩ | ⟨y, hy, ey, _⟩
    · rw [c2, m2]
    · exact absurd (by rw [ey]; exact inN_n hy (by omega)) c1
  · rcases hm with ⟨m1, _⟩ | ⟨y, hy, ey, m2⟩
    · exact absurd (by rw [ex]; exact inN_n hx (by omega)) m1
    · obtain rfl : x = y := nI_inj (by omega) (by omega) (ex.symm.trans ey)
      rw [c2, m2]; exact (rcF_hear h hx).2.2
theorem rQ_jury {na : Nat} {da : Nat → Int32} {LL : Nat → Nat} {LG : Nat → Nat → Int32} {np nf nr nt : Nat} {dp df dr ct : Nat → Int32} {pay fine : Int32} {T : Nat → Nat} {S : Nat → Nat → Int32} {s : Nat → Int32} {np9 nf9 nr9 na9 nt9 : Nat} {z z' a1 : Int32} (h : rcF na da LL LG np nf nr nt dp df dr ct pay fine T S s) (hs : stOK s np9 nf9 nr9 na9 nt9) (hc : (¬ inN a1 nt = true ∧ z = -2) ∨ (∃ x, x < nt ∧ a1 = nI x ∧ z = cJr np nf nr na dp df dr da ct LL LG x)) (hm : (¬ inN a1 nt9 = true ∧ z' = -2) ∨ (∃ x, x < nt9 ∧ a1 = nI x ∧ z' = rJr np9 nf9 nr9 na9 s x)) : z = z' := by
  have b3 := h.b3
  have b0 := h.b0
  have b1 := h.b1
  have b2 := h.b2
  have b4 := h.b4
  obtain rfl : np = np9 := nI_inj (by omega) (by have := hs.c0; omega) (h.n0.symm.trans hs.h0)
  obtain rfl : nf = nf9 := nI_inj (by omega) (by have := hs.c1; omega) (h.n1.symm.trans hs.h1)
  obtain rfl : nr = nr9 := nI_inj (by omega) (by have := hs.c2; omega) (h.n2.symm.trans hs.h2)
  obtain rfl : na = na9 := nI_inj (by omega) (by have := hs.c3; omega) (h.n3.symm.trans hs.h3)
  obtain rfl : nt = nt9 := nI_inj (by omega) (by have := hs.c4; omega) (h.n4.symm.trans hs.h4)
  rcases hc with ⟨c1, c2⟩ | ⟨x, hx, ex, c2⟩
  · rcases hm with ⟨_, m2⟩ | ⟨y, hy, ey, _⟩
    · rw [c2, m2]
    · exact absurd (by rw [ey]; exact inN_n hy (by omega)) c1
  · rcases hm with ⟨m1, _⟩ | ⟨y, hy, ey, m2⟩
    · exact absurd (by rw [ex]; exact inN_n hx (by omega)) m1
    · obtain rfl : x = y := nI_inj (by omega) (by omega) (ex.symm.trans ey)
      rw [c2, m2]; exact (rcF_hear h hx).1
theorem rQ_drawn {na : Nat} {da : Nat → Int32} {LL : Nat → Nat} {LG : Nat → Nat → Int32} {np nf nr nt : Nat} {dp df dr ct : Nat → Int32} {pay fine : Int32} {T : Nat → Nat} {S : Nat → Nat → Int32} {s : Nat → Int32} {np9 nf9 nr9 na9 nt9 : Nat} {z z' a1 a2 : Int32} (h : rcF na da LL LG np nf nr nt dp df dr ct pay fine T S s) (hs : stOK s np9 nf9 nr9 na9 nt9) (hc : (¬ (inN a1 nt = true ∧ 0 ≤ a2) ∧ z = -2) ∨ (∃ x, x < nt ∧ a1 = nI x ∧ 0 ≤ a2 ∧ z = drV (cBx np nf nr na dp df dr da ct LL LG x) (fun c => ct (70 * x + c)) a2)) (hm : (¬ (inN a1 nt9 = true ∧ 0 ≤ a2) ∧ z' = -2) ∨ (∃ x, x < nt9 ∧ a1 = nI x ∧ 0 ≤ a2 ∧ z' = drV (rBx np9 nf9 nr9 na9 s x) (kS s x) a2)) : z = z' := by
  have b3 := h.b3
  have b0 := h.b0
  have b1 := h.b1
  have b2 := h.b2
  have b4 := h.b4
  obtain rfl : np = np9 := nI_inj (by omega) (by have := hs.c0; omega) (h.n0.symm.trans hs.h0)
  obtain rfl : nf = nf9 := nI_inj (by omega) (by have := hs.c1; omega) (h.n1.symm.trans hs.h1)
  obtain rfl : nr = nr9 := nI_inj (by omega) (by have := hs.c2; omega) (h.n2.symm.trans hs.h2)
  obtain rfl : na = na9 := nI_inj (by omega) (by have := hs.c3; omega) (h.n3.symm.trans hs.h3)
  obtain rfl : nt = nt9 := nI_inj (by omega) (by have := hs.c4; omega) (h.n4.symm.trans hs.h4)
  rcases hc with ⟨c1, c2⟩ | ⟨x, hx, ex, h0, c2⟩
  · rcases hm with ⟨_, m2⟩ | ⟨y, hy, ey, h0, _⟩
    · rw [c2, m2]
    · exact absurd ⟨by rw [ey]; exact inN_n hy (by omega), h0⟩ c1
  · rcases hm with ⟨m1, _⟩ | ⟨y, hy, ey, _, m2⟩
    · exact absurd ⟨by rw [ex]; exact inN_n hx (by omega), h0⟩ m1
    · obtain rfl : x = y := nI_inj (by omega) (by omega) (ex.symm.trans ey)
      rw [c2, m2, (rcF_hear h hx).2.2]
      have e1 := (h_congr (box := rBx np nf nr na s x) (rcF_row h hx)).1
      have e7 : ct (70 * x + 7) = kS s x 7 := rcF_row h hx 7 (by omega)
      unfold drV
      rw [e1]
      show (if inN a2 (hM (rBx np nf nr na s x) (kS s x)) = true then nI (drP (rBx np nf nr na s x) (ct (70 * x + 7)) a2.toNatClampNeg) else -1) = _
      rw [e7]
theorem rQ_slip {na : Nat} {da : Nat → Int32} {LL : Nat → Nat} {LG : Nat → Nat → Int32} {np nf nr nt : Nat} {dp df dr ct : Nat → Int32} {pay fine : Int32} {T : Nat → Nat} {S : Nat → Nat → Int32} {s : Nat → Int32} {np9 nf9 nr9 na9 nt9 : Nat} {z z' a1 a2 : Int32} (h : rcF na da LL LG np nf nr nt dp df dr ct pay fine T S s) (hs : stOK s np9 nf9 nr9 na9 nt9) (hc : (¬ (inN a1 nt = true ∧ inN a2 np = true) ∧ z = -2) ∨ (∃ x p, x < nt ∧ a1 = nI x ∧ p < np ∧ a2 = nI p ∧ z = stZ (cBx np nf nr na dp df dr da ct LL LG x) (hCa (cBx np nf nr na dp df dr da ct LL LG x) (fun c => ct (70 * x + c))) (hMi (cBx np nf nr na dp df dr da ct LL LG x) (fun c => ct (70 * x + c))) (hX (cBx np nf nr na dp df dr da ct LL LG x) (fun c => ct (70 * x + c))) (hSw (cBx np nf nr na dp df dr da ct LL LG x) (pasV (cFt np nf nr na dp df dr da ct LL LG x) (cBx np nf nr na dp df dr da ct LL LG x)) (fun c => ct (70 * x + c))) p)) (hm : (¬ (inN a1 nt9 = true ∧ inN a2 np9 = true) ∧ z' = -2) ∨ (∃ x p, x < nt9 ∧ a1 = nI x ∧ p < np9 ∧ a2 = nI p ∧ z' = slZ (rBx np9 nf9 nr9 na9 s x) (pasV (rFt np9 nf9 nr9 na9 s x) (rBx np9 nf9 nr9 na9 s x)) (kS s x) p)) : z = z' := by
  have b3 := h.b3
  have b0 := h.b0
  have b1 := h.b1
  have b2 := h.b2
  have b4 := h.b4
  obtain rfl : np = np9 := nI_inj (by omega) (by have := hs.c0; omega) (h.n0.symm.trans hs.h0)
  obtain rfl : nf = nf9 := nI_inj (by omega) (by have := hs.c1; omega) (h.n1.symm.trans hs.h1)
  obtain rfl : nr = nr9 := nI_inj (by omega) (by have := hs.c2; omega) (h.n2.symm.trans hs.h2)
  obtain rfl : na = na9 := nI_inj (by omega) (by have := hs.c3; omega) (h.n3.symm.trans hs.h3)
  obtain rfl : nt = nt9 := nI_inj (by omega) (by have := hs.c4; omega) (h.n4.symm.trans hs.h4)
  rcases hc with ⟨c1, c2⟩ | ⟨x, p, hx, ex, hp, ep, c2⟩
  · rcases hm with ⟨_, m2⟩ | ⟨y, q, hy, ey, hq, eq, _⟩
    · rw [c2, m2]
    · exact absurd ⟨by rw [ey]; exact inN_n hy (by omega), by rw [eq]; exact inN_n hq (by omega)⟩ c1
  · rcases hm with ⟨m1, _⟩ | ⟨y, q, hy, ey, hq, eq, m2⟩
    · exact absurd ⟨by rw [ex]; exact inN_n hx (by omega), by rw [ep]; exact inN_n hp (by omega)⟩ m1
    · obtain rfl : x = y := nI_inj (by omega) (by omega) (ex.symm.trans ey)
      obtain rfl : p = q := nI_inj (by omega) (by omega) (ep.symm.trans eq)
      obtain ⟨_, e2, e3⟩ := rcF_hear h hx
      obtain ⟨f1, f2, f3, f4, _, _, f7⟩ := h_congr (box := rBx np nf nr na s x) (rcF_row h hx)
      rw [c2, m2, e2, e3, f2, f3, f4, f7, slZ_stZ (by omega)]
theorem abV_congr {box pas : Int32} {R R' : Nat → Int32} (h : ∀ c, c < 70 → R c = R' c) : ∀ k, abV box pas R k = abV box pas R' k := by
  obtain ⟨f1, _, _, f4, _, _, f7⟩ := h_congr (box := box) h
  have h7 := h 7 (by omega)
  intro k
  rcases k with _ | _ | _ | k
  · show nI _ = nI _; rw [f7]
  · show nI _ = nI _; rw [f4]
  · show nI _ = nI _; rw [f4]
  · show lotF (R 7) _ = lotF (R' 7) _; rw [f1, h7]
theorem rQ_about {na : Nat} {da : Nat → Int32} {LL : Nat → Nat} {LG : Nat → Nat → Int32} {np nf nr nt : Nat} {dp df dr ct : Nat → Int32} {pay fine : Int32} {T : Nat → Nat} {S : Nat → Nat → Int32} {s : Nat → Int32} {np9 nf9 nr9 na9 nt9 : Nat} {z z' a1 a2 : Int32} (h : rcF na da LL LG np nf nr nt dp df dr ct pay fine T S s) (hs : stOK s np9 nf9 nr9 na9 nt9) (hc : (¬ (inN a1 nt = true ∧ inB 0 a2 3 = true) ∧ z = -2000000000) ∨ (∃ x k, x < nt ∧ a1 = nI x ∧ k ≤ 3 ∧ a2 = nI k ∧ z = abV (cBx np nf nr na dp df dr da ct LL LG x) (pasV (cFt np nf nr na dp df dr da ct LL LG x) (cBx np nf nr na dp df dr da ct LL LG x)) (fun c => ct (70 * x + c)) k)) (hm : (¬ (inN a1 nt9 = true ∧ inB 0 a2 3 = true) ∧ z' = -2000000000) ∨ (∃ x k, x < nt9 ∧ a1 = nI x ∧ k ≤ 3 ∧ a2 = nI k ∧ z' = abR (rBx np9 nf9 nr9 na9 s x) (pasV (rFt np9 nf9 nr9 na9 s x) (rBx np9 nf9 nr9 na9 s x)) (kS s x) k)) : z = z' := by
  have b3 := h.b3
  have b0 := h.b0
  have b1 := h.b1
  have b2 := h.b2
  have b4 := h.b4
  obtain rfl : np = np9 := nI_inj (by omega) (by have := hs.c0; omega) (h.n0.symm.trans hs.h0)
  obtain rfl : nf = nf9 := nI_inj (by omega) (by have := hs.c1; omega) (h.n1.symm.trans hs.h1)
  obtain rfl : nr = nr9 := nI_inj (by omega) (by have := hs.c2; omega) (h.n2.symm.trans hs.h2)
  obtain rfl : na = na9 := nI_inj (by omega) (by have := hs.c3; omega) (h.n3.symm.trans hs.h3)
  obtain rfl : nt = nt9 := nI_inj (by omega) (by have := hs.c4; omega) (h.n4.symm.trans hs.h4)
  rcases hc with ⟨c1, c2⟩ | ⟨x, p, hx, ex, hp, ep, c2⟩
  · rcases hm with ⟨_, m2⟩ | ⟨y, q, hy, ey, hq, eq, _⟩
    · rw [c2, m2]
    · exact absurd ⟨by rw [ey]; exact inN_n hy (by omega), by rw [eq]; exact inB_03 q hq⟩ c1
  · rcases hm with ⟨m1, _⟩ | ⟨y, q, hy, ey, hq, eq, m2⟩
    · exact absurd ⟨by rw [ex]; exact inN_n hx (by omega), by rw [ep]; exact inB_03 p hp⟩ m1
    · obtain rfl : x = y := nI_inj (by omega) (by omega) (ex.symm.trans ey)
      obtain rfl : p = q := nI_inj (by omega) (by omega) (ep.symm.trans eq)
      obtain ⟨_, e2, e3⟩ := rcF_hear h hx
      rw [c2, m2, e2, e3, abR_V]
      exact abV_congr (rcF_row h hx) p
theorem rQ_count {na : Nat} {da : Nat → Int32} {LL : Nat → Nat} {LG : Nat → Nat → Int32} {np nf nr nt : Nat} {dp df dr ct : Nat → Int32} {pay fine : Int32} {T : Nat → Nat} {S : Nat → Nat → Int32} {s : Nat → Int32} {np9 nf9 nr9 na9 nt9 : Nat} {z z' a1 : Int32} (h : rcF na da LL LG np nf nr nt dp df dr ct pay fine T S s) (hs : stOK s np9 nf9 nr9 na9 nt9) (hc : (¬ inB 0 a1 5 = true ∧ z = -2) ∨ (inB 0 a1 5 = true ∧ z = cnV np nf nr na nt (jcn (cJr np nf nr na dp df dr da ct LL LG) nt) a1)) (hm : (¬ inB 0 a1 5 = true ∧ z' = -2) ∨ (inB 0 a1 5 = true ∧ z' = cnV np9 nf9 nr9 na9 nt9 (jcn (rJr np9 nf9 nr9 na9 s) nt9) a1)) : z = z' := by
  have b3 := h.b3
  have b0 := h.b0
  have b1 := h.b1
  have b2 := h.b2
  have b4 := h.b4
  obtain rfl : np = np9 := nI_inj (by omega) (by have := hs.c0; omega) (h.n0.symm.trans hs.h0)
  obtain rfl : nf = nf9 := nI_inj (by omega) (by have := hs.c1; omega) (h.n1.symm.trans hs.h1)
  obtain rfl : nr = nr9 := nI_inj (by omega) (by have := hs.c2; omega) (h.n2.symm.trans hs.h2)
  obtain rfl : na = na9 := nI_inj (by omega) (by have := hs.c3; omega) (h.n3.symm.trans hs.h3)
  obtain rfl : nt = nt9 := nI_inj (by omega) (by have := hs.c4; omega) (h.n4.symm.trans hs.h4)
  rcases hc with ⟨c1, c2⟩ | ⟨c1, c2⟩
  · rcases hm with ⟨_, m2⟩ | ⟨m1, _⟩
    · rw [c2, m2]
    · exact absurd m1 c1
  · rcases hm with ⟨m1, _⟩ | ⟨_, m2⟩
    · exact absurd c1 m1
    · rw [c2, m2]
      rw [jcn_congr nt (fun t ht => (rcF_hear h ht).1)]
theorem rQ_bad {na : Nat} {da : Nat → Int32} {LL : Nat → Nat} {LG : Nat → Nat → Int32} {np nf nr nt : Nat} {dp df dr ct : Nat → Int32} {pay fine : Int32} {T : Nat → Nat} {S : Nat → Nat → Int32} {s : Nat → Int32} {np9 nf9 nr9 na9 nt9 : Nat} {z z' a1 : Int32} (h : rcF na da LL LG np nf nr nt dp df dr ct pay fine T S s) (hs : stOK s np9 nf9 nr9 na9 nt9) (hc : (¬ inB 0 a1 9999 = true ∧ z = -2) ∨ (inB 0 a1 9999 = true ∧ z = bdV (fun i c => df (3 * i + c)) (fun t c => ct (70 * t + c)) (cJr np nf nr na dp df dr da ct LL LG) nf a1 nt)) (hm : (¬ inB 0 a1 9999 = true ∧ z' = -2) ∨ (inB 0 a1 9999 = true ∧ z' = bdV (fun i c => s (3 * i + c + 130)) (fun t c => s (10 * t + c + 1546)) (rJr np9 nf9 nr9 na9 s) nf9 a1 nt9)) : z = z' := by
  have b3 := h.b3
  have b0 := h.b0
  have b1 := h.b1
  have b2 := h.b2
  have b4 := h.b4
  obtain rfl : np = np9 := nI_inj (by omega) (by have := hs.c0; omega) (h.n0.symm.trans hs.h0)
  obtain rfl : nf = nf9 := nI_inj (by omega) (by have := hs.c1; omega) (h.n1.symm.trans hs.h1)
  obtain rfl : nr = nr9 := nI_inj (by omega) (by have := hs.c2; omega) (h.n2.symm.trans hs.h2)
  obtain rfl : na = na9 := nI_inj (by omega) (by have := hs.c3; omega) (h.n3.symm.trans hs.h3)
  obtain rfl : nt = nt9 := nI_inj (by omega) (by have := hs.c4; omega) (h.n4.symm.trans hs.h4)
  rcases hc with ⟨c1, c2⟩ | ⟨c1, c2⟩
  · rcases hm with ⟨_, m2⟩ | ⟨m1, _⟩
    · rw [c2, m2]
    · exact absurd m1 c1
  · rcases hm with ⟨m1, _⟩ | ⟨_, m2⟩
    · exact absurd c1 m1
    · rw [c2, m2]
      exact bdV_congr (fun i hi c hc => (h.e1 (3 * i + c) (by omega)).symm) (fun t ht => ⟨(h.e4 t ht 3 (by omega)).symm, (h.e4 t ht 4 (by omega)).symm⟩) (fun t ht => (rcF_hear h ht).1)
theorem rQ_owed {na : Nat} {da : Nat → Int32} {LL : Nat → Nat} {LG : Nat → Nat → Int32} {np nf nr nt : Nat} {dp df dr ct : Nat → Int32} {pay fine : Int32} {T : Nat → Nat} {S : Nat → Nat → Int32} {s : Nat → Int32} {np9 nf9 nr9 na9 nt9 : Nat} {z z' a1 a2 : Int32} (h : rcF na da LL LG np nf nr nt dp df dr ct pay fine T S s) (hs : stOK s np9 nf9 nr9 na9 nt9) (hc : (¬ (inN a1 np = true ∧ inB 0 a2 9999 = true) ∧ z = -1000000) ∨ (∃ pn, pn < np ∧ a1 = nI pn ∧ inB 0 a2 9999 = true ∧ z = owV (fun t c => ct (70 * t + c)) (cJr np nf nr na dp df dr da ct LL LG) (fun t => hMi (cBx np nf nr na dp df dr da ct LL LG t) (fun c => ct (70 * t + c))) pay fine a2 pn nt)) (hm : (¬ (inN a1 np9 = true ∧ inB 0 a2 9999 = true) ∧ z' = -1000000) ∨ (∃ pn, pn < np9 ∧ a1 = nI pn ∧ inB 0 a2 9999 = true ∧ z' = owV (fun t c => s (10 * t + c + 1546)) (rJr np9 nf9 nr9 na9 s) (fun t => hMi (rBx np9 nf9 nr9 na9 s t) (kS s t)) (s 5) (s 6) a2 pn nt9)) : z = z' := by
  have b3 := h.b3
  have b0 := h.b0
  have b1 := h.b1
  have b2 := h.b2
  have b4 := h.b4
  obtain rfl : np = np9 := nI_inj (by omega) (by have := hs.c0; omega) (h.n0.symm.trans hs.h0)
  obtain rfl : nf = nf9 := nI_inj (by omega) (by have := hs.c1; omega) (h.n1.symm.trans hs.h1)
  obtain rfl : nr = nr9 := nI_inj (by omega) (by have := hs.c2; omega) (h.n2.symm.trans hs.h2)
  obtain rfl : na = na9 := nI_inj (by omega) (by have := hs.c3; omega) (h.n3.symm.trans hs.h3)
  obtain rfl : nt = nt9 := nI_inj (by omega) (by have := hs.c4; omega) (h.n4.symm.trans hs.h4)
  rcases hc with ⟨c1, c2⟩ | ⟨x, hx, ex, h0, c2⟩
  · rcases hm with ⟨_, m2⟩ | ⟨y, hy, ey, h0, _⟩
    · rw [c2, m2]
    · exact absurd ⟨by rw [ey]; exact inN_n hy (by omega), h0⟩ c1
  · rcases hm with ⟨m1, _⟩ | ⟨y, hy, ey, _, m2⟩
    · exact absurd ⟨by rw [ex]; exact inN_n hx (by omega), h0⟩ m1
    · obtain rfl : x = y := nI_inj (by omega) (by omega) (ex.symm.trans ey)
      rw [c2, m2, h.p0, h.p1]
      refine owV_congr nt (fun t ht => ⟨(h.e4 t ht 0 (by omega)).symm, (h.e4 t ht 1 (by omega)).symm, (rcF_hear h ht).1, ?_⟩)
      show hMi (cBx np nf nr na dp df dr da ct LL LG t) (fun c => ct (70 * t + c)) = hMi (rBx np nf nr na s t) (kS s t)
      rw [(rcF_hear h ht).2.2]
      exact (h_congr (box := rBx np nf nr na s t) (rcF_row h ht)).2.2.1
theorem inB_k1 {k : Nat} (h : k ≤ 1) : inB 0 (nI k) 1 = true := by
  rcases (show k = 0 ∨ k = 1 by omega) with e | e <;> subst e <;> decide
theorem rcF_nv {na : Nat} {da : Nat → Int32} {LL : Nat → Nat} {LG : Nat → Nat → Int32} {np nf nr nt : Nat} {dp df dr ct : Nat → Int32} {pay fine : Int32} {T : Nat → Nat} {S : Nat → Nat → Int32} {s : Nat → Int32} (h : rcF na da LL LG np nf nr nt dp df dr ct pay fine T S s) {day : Int32} {p : Nat} (hp : p < np) : nvF (fun i c => dp (4 * i + c)) (fun t c => ct (70 * t + c)) (cJr np nf nr na dp df dr da ct LL LG) day nt p = nvF (fun i c => s (4 * i + c + 10)) (fun t c => s (10 * t + c + 1546)) (rJr np nf nr na s) day nt p :=
  nvF_congr (fun c hc => (h.e0 (4 * p + c) (by omega)).symm) (fun o ho => (h.e4 o ho 0 (by omega)).symm) (fun o ho => (rcF_hear h ho).1)
theorem rcF_law {na : Nat} {da : Nat → Int32} {LL : Nat → Nat} {LG : Nat → Nat → Int32} {np nf nr nt : Nat} {dp df dr ct : Nat → Int32} {pay fine : Int32} {T : Nat → Nat} {S : Nat → Nat → Int32} {s : Nat → Int32} (h : rcF na da LL LG np nf nr nt dp df dr ct pay fine T S s) {k day : Int32} : (fcB (fun i c => da (3 * i + c)) k day na).map (fun z => rdO (LL z) (LG z)) = (fcB (fun i c => s (54 * i + c + 466)) k day na).map (rL s) :=
  lw_congr (A := (fun i c => da (3 * i + c))) (A' := (fun i c => s (54 * i + c + 466))) (LO := (fun z => rdO (LL z) (LG z))) (LO' := rL s) (fun i hi c hc => (h.a3 i hi c hc).symm) (fun z hz => by
      have m3 := h.m3 z hz
      show rdO (LL z) (LG z) = rdO (s (54 * z + 469)).toNatClampNeg (fun k => s (54 * z + 469 + k + 1))
      rw [h.l3 z hz, nI_clamp (by omega)]
      refine rdO_congr (fun k hk => ?_)
      show LG z k = s (54 * z + 469 + k + 1)
      rw [show 54 * z + 469 + k + 1 = 54 * z + k + 470 by omega]
      exact (h.g3 z hz k hk).symm)
theorem rQ_may {na : Nat} {da : Nat → Int32} {LL : Nat → Nat} {LG : Nat → Nat → Int32} {np nf nr nt : Nat} {dp df dr ct : Nat → Int32} {pay fine : Int32} {T : Nat → Nat} {S : Nat → Nat → Int32} {s : Nat → Int32} {np9 nf9 nr9 na9 nt9 : Nat} {z z' a1 a2 a3 : Int32} (h : rcF na da LL LG np nf nr nt dp df dr ct pay fine T S s) (hs : stOK s np9 nf9 nr9 na9 nt9) (hc : (¬ (inN a1 np = true ∧ inB 0 a2 9999 = true ∧ inB 0 a3 1 = true) ∧ z = -2) ∨ (∃ pn k, pn < np ∧ a1 = nI pn ∧ inB 0 a2 9999 = true ∧ k ≤ 1 ∧ a3 = nI k ∧ z = myV (nvF (fun i c => dp (4 * i + c)) (fun t c => ct (70 * t + c)) (cJr np nf nr na dp df dr da ct LL LG) a2 nt pn) k ((fcB (fun i c => da (3 * i + c)) (nI k) a2 na).map (fun z => rdO (LL z) (LG z))))) (hm : (¬ (inN a1 np9 = true ∧ inB 0 a2 9999 = true ∧ inB 0 a3 1 = true) ∧ z' = -2) ∨ (∃ pn k, pn < np9 ∧ a1 = nI pn ∧ inB 0 a2 9999 = true ∧ k ≤ 1 ∧ a3 = nI k ∧ z' = myV (nvF (fun i c => s (4 * i + c + 10)) (fun t c => s (10 * t + c + 1546)) (rJr np9 nf9 nr9 na9 s) a2 nt9 pn) k ((fcB (fun i c => s (54 * i + c + 466)) (nI k) a2 na9).map (rL s)))) : z = z' := by
  have b3 := h.b3
  have b0 := h.b0
  have b1 := h.b1
  have b2 := h.b2
  have b4 := h.b4
  obtain rfl : np = np9 := nI_inj (by omega) (by have := hs.c0; omega) (h.n0.symm.trans hs.h0)
  obtain rfl : nf = nf9 := nI_inj (by omega) (by have := hs.c1; omega) (h.n1.symm.trans hs.h1)
  obtain rfl : nr = nr9 := nI_inj (by omega) (by have := hs.c2; omega) (h.n2.symm.trans hs.h2)
  obtain rfl : na = na9 := nI_inj (by omega) (by have := hs.c3; omega) (h.n3.symm.trans hs.h3)
  obtain rfl : nt = nt9 := nI_inj (by omega) (by have := hs.c4; omega) (h.n4.symm.trans hs.h4)
  rcases hc with ⟨c1, c2⟩ | ⟨p, k, hp, ep, hd, hk, ek, c2⟩
  · rcases hm with ⟨_, m2⟩ | ⟨q, l, hq, eq, hd, hl, el, _⟩
    · rw [c2, m2]
    · exact absurd ⟨by rw [eq]; exact inN_n hq (by omega), hd, by rw [el]; exact inB_k1 hl⟩ c1
  · rcases hm with ⟨m1, _⟩ | ⟨q, l, hq, eq, _, hl, el, m2⟩
    · exact absurd ⟨by rw [ep]; exact inN_n hp (by omega), hd, by rw [ek]; exact inB_k1 hk⟩ m1
    · obtain rfl : p = q := nI_inj (by omega) (by omega) (ep.symm.trans eq)
      obtain rfl : k = l := nI_inj (by omega) (by omega) (ek.symm.trans el)
      rw [c2, m2, rcF_nv h hp, rcF_law h]
theorem rQ_tells {na : Nat} {da : Nat → Int32} {LL : Nat → Nat} {LG : Nat → Nat → Int32} {np nf nr nt : Nat} {dp df dr ct : Nat → Int32} {pay fine : Int32} {T : Nat → Nat} {S : Nat → Nat → Int32} {s : Nat → Int32} {np9 nf9 nr9 na9 nt9 : Nat} {z z' : Int64} {a1 a2 a3 : Int32} (h : rcF na da LL LG np nf nr nt dp df dr ct pay fine T S s) (hs : stOK s np9 nf9 nr9 na9 nt9) (hc : (¬ (inB 0 a1 3 = true ∧ inN a2 np = true ∧ inB 0 a3 9999 = true) ∧ z = -2000000000000000000) ∨ (∃ x pn, x ≤ 3 ∧ a1 = nI x ∧ pn < np ∧ a2 = nI pn ∧ inB 0 a3 9999 = true ∧ ((¬ rdA (T x) (S x) = -1 ∧ z = -3000000000000000000) ∨ (rdA (T x) (S x) = -1 ∧ z = (ev (nvF (fun i c => dp (4 * i + c)) (fun t c => ct (70 * t + c)) (cJr np nf nr na dp df dr da ct LL LG) a3 nt pn) (rdO (T x) (S x))).headD 0)))) (hm : (¬ (inB 0 a1 3 = true ∧ inN a2 np9 = true ∧ inB 0 a3 9999 = true) ∧ z' = -2000000000000000000) ∨ (∃ x l pn, x ≤ 3 ∧ a1 = nI x ∧ l ≤ 50 ∧ s (51 * x + 262) = nI l ∧ pn < np9 ∧ a2 = nI pn ∧ inB 0 a3 9999 = true ∧ ((¬ rdA l (fun k => s (51 * x + 262 + k + 1)) = -1 ∧ z' = -3000000000000000000) ∨ (rdA l (fun k => s (51 * x + 262 + k + 1)) = -1 ∧ z' = (ev (nvF (fun i c => s (4 * i + c + 10)) (fun t c => s (10 * t + c + 1546)) (rJr np9 nf9 nr9 na9 s) a3 nt9 pn) (rdO l (fun k => s (51 * x + 262 + k + 1)))).headD 0)))) : z = z' := by
  have b3 := h.b3
  have b0 := h.b0
  have b1 := h.b1
  have b2 := h.b2
  have b4 := h.b4
  obtain rfl : np = np9 := nI_inj (by omega) (by have := hs.c0; omega) (h.n0.symm.trans hs.h0)
  obtain rfl : nf = nf9 := nI_inj (by omega) (by have := hs.c1; omega) (h.n1.symm.trans hs.h1)
  obtain rfl : nr = nr9 := nI_inj (by omega) (by have := hs.c2; omega) (h.n2.symm.trans hs.h2)
  obtain rfl : na = na9 := nI_inj (by omega) (by have := hs.c3; omega) (h.n3.symm.trans hs.h3)
  obtain rfl : nt = nt9 := nI_inj (by omega) (by have := hs.c4; omega) (h.n4.symm.trans hs.h4)
  rcases hc with ⟨c1, c2⟩ | ⟨x, p, hx, ex, hp, ep, hd, c2⟩
  · rcases hm with ⟨_, m2⟩ | ⟨y, l, q, hy, ey, _, _, hq, eq, hd, _⟩
    · rw [c2, m2]
    · exact absurd ⟨by rw [ey]; exact inB_03 y hy, by rw [eq]; exact inN_n hq (by omega), hd⟩ c1
  · rcases hm with ⟨m1, _⟩ | ⟨y, l, q, hy, ey, hl5, el, hq, eq, _, m2⟩
    · exact absurd ⟨by rw [ex]; exact inB_03 x hx, by rw [ep]; exact inN_n hp (by omega), hd⟩ m1
    · obtain rfl : x = y := nI_inj (by omega) (by omega) (ex.symm.trans ey)
      obtain rfl : p = q := nI_inj (by omega) (by omega) (ep.symm.trans eq)
      have h1 := h.tt x (by omega)
      have h2 := h.tb x (by omega)
      have hl : l = T x := nI_inj (by omega) (by omega) (el.symm.trans h1)
      subst hl
      have eC : ∀ k, k < T x → S x k = (fun k => s (51 * x + 262 + k + 1)) k := fun k hk => by
        show S x k = s (51 * x + 262 + k + 1)
        rw [show 51 * x + 262 + k + 1 = 51 * x + k + 263 by omega]
        exact (h.ts x (by omega) k hk).symm
      rw [← rdA_congr eC, ← rdO_congr eC, ← rcF_nv h hp] at m2
      rcases c2 with ⟨d1, d2⟩ | ⟨d1, d2⟩
      · rcases m2 with ⟨_, g2⟩ | ⟨g1, _⟩
        · rw [d2, g2]
        · exact absurd g1 d1
      · rcases m2 with ⟨g1, _⟩ | ⟨_, g2⟩
        · exact absurd d1 g1
        · rw [d2, g2]
theorem rQ_turn {na : Nat} {da : Nat → Int32} {LL : Nat → Nat} {LG : Nat → Nat → Int32} {np nf nr nt : Nat} {dp df dr ct : Nat → Int32} {pay fine : Int32} {T : Nat → Nat} {S : Nat → Nat → Int32} {s : Nat → Int32} {np9 nf9 nr9 na9 nt9 : Nat} {z z' a1 a2 : Int32} (h : rcF na da LL LG np nf nr nt dp df dr ct pay fine T S s) (hs : stOK s np9 nf9 nr9 na9 nt9) (hc : (¬ (inB 0 a1 3 = true ∧ inB 0 a2 9999 = true) ∧ z = -2) ∨ ((inB 0 a1 3 = true ∧ inB 0 a2 9999 = true) ∧ z = tuV np nt (fun i c => dp (4 * i + c)) (fun t c => ct (70 * t + c)) (cJr np nf nr na dp df dr da ct LL LG) a2 (rlV np nr (fun i c => dr (3 * i + c)) a2 &&& sO (fun i => decide (dp (4 * i + 0) = a1)) np) ((fcB (fun i c => da (3 * i + c)) 0 a2 na).map (fun z => rdO (LL z) (LG z))))) (hm : (¬ (inB 0 a1 3 = true ∧ inB 0 a2 9999 = true) ∧ z' = -2) ∨ ((inB 0 a1 3 = true ∧ inB 0 a2 9999 = true) ∧ z' = tuV np9 nt9 (fun i c => s (4 * i + c + 10)) (fun t c => s (10 * t + c + 1546)) (rJr np9 nf9 nr9 na9 s) a2 (rlV np9 nr9 (fun i c => s (3 * i + c + 250)) a2 &&& sO (fun i => decide ((fun i c => s (4 * i + c + 10)) i 0 = a1)) np9) ((fcB (fun i c => s (54 * i + c + 466)) 0 a2 na9).map (rL s)))) : z = z' := by
  have b3 := h.b3
  have b0 := h.b0
  have b1 := h.b1
  have b2 := h.b2
  have b4 := h.b4
  obtain rfl : np = np9 := nI_inj (by omega) (by have := hs.c0; omega) (h.n0.symm.trans hs.h0)
  obtain rfl : nf = nf9 := nI_inj (by omega) (by have := hs.c1; omega) (h.n1.symm.trans hs.h1)
  obtain rfl : nr = nr9 := nI_inj (by omega) (by have := hs.c2; omega) (h.n2.symm.trans hs.h2)
  obtain rfl : na = na9 := nI_inj (by omega) (by have := hs.c3; omega) (h.n3.symm.trans hs.h3)
  obtain rfl : nt = nt9 := nI_inj (by omega) (by have := hs.c4; omega) (h.n4.symm.trans hs.h4)
  rcases hc with ⟨c1, c2⟩ | ⟨c1, c2⟩
  · rcases hm with ⟨_, m2⟩ | ⟨m1, _⟩
    · rw [c2, m2]
    · exact absurd m1 c1
  · rcases hm with ⟨m1, _⟩ | ⟨_, m2⟩
    · exact absurd c1 m1
    · have e1 := rlV_congr (np := np) (nr := nr) (day := a2) (R := (fun i c => dr (3 * i + c))) (R' := (fun i c => s (3 * i + c + 250))) (fun i hi c hc => (h.e2 (3 * i + c) (by omega)).symm)
      have e2 : sO (fun i => decide (dp (4 * i + 0) = a1)) np = sO (fun i => decide ((fun i c => s (4 * i + c + 10)) i 0 = a1)) np := sO_congr np (fun k hk => by
        show decide (dp (4 * k + 0) = a1) = decide (s (4 * k + 0 + 10) = a1)
        rw [h.e0 (4 * k + 0) (by omega)])
      rw [c2, m2, e1, e2, rcF_law h]
      exact tuV_congr (fun p hp c hc => (h.e0 (4 * p + c) (by omega)).symm) (fun o ho => (h.e4 o ho 0 (by omega)).symm) (fun o ho => (rcF_hear h ho).1)
theorem rQ_twelve {na : Nat} {da : Nat → Int32} {LL : Nat → Nat} {LG : Nat → Nat → Int32} {np nf nr nt : Nat} {dp df dr ct : Nat → Int32} {pay fine : Int32} {T : Nat → Nat} {S : Nat → Nat → Int32} {s : Nat → Int32} {np9 nf9 nr9 na9 nt9 : Nat} {z z' a1 a2 : Int32} (h : rcF na da LL LG np nf nr nt dp df dr ct pay fine T S s) (hs : stOK s np9 nf9 nr9 na9 nt9) (hc : (¬ (inN a1 nt = true ∧ inB 0 a2 1 = true) ∧ z = -2) ∨ (∃ x k, x < nt ∧ a1 = nI x ∧ k ≤ 1 ∧ a2 = nI k ∧ z = twA (fun i c => dp (4 * i + c)) np (if k = 0 then cBx np nf nr na dp df dr da ct LL LG x else tvP np (nvF (fun i c => dp (4 * i + c)) (fun t c => ct (70 * t + c)) (cJr np nf nr na dp df dr da ct LL LG) (ct (70 * x + 0)) nt) ((fcB (fun i c => da (3 * i + c)) 0 (ct (70 * x + 0)) na).map (fun z => rdO (LL z) (LG z)))) (ct (70 * x + 2)))) (hm : (¬ (inN a1 nt9 = true ∧ inB 0 a2 1 = true) ∧ z' = -2) ∨ (∃ x k, x < nt9 ∧ a1 = nI x ∧ k ≤ 1 ∧ a2 = nI k ∧ z' = twA (fun i c => s (4 * i + c + 10)) np9 (if k = 0 then rBx np9 nf9 nr9 na9 s x else tvP np9 (nvF (fun i c => s (4 * i + c + 10)) (fun t c => s (10 * t + c + 1546)) (rJr np9 nf9 nr9 na9 s) (s (10 * x + 1546)) nt9) ((fcB (fun i c => s (54 * i + c + 466)) 0 (s (10 * x + 1546)) na9).map (rL s))) (s (10 * x + 1548)))) : z = z' := by
  have b3 := h.b3
  have b0 := h.b0
  have b1 := h.b1
  have b2 := h.b2
  have b4 := h.b4
  obtain rfl : np = np9 := nI_inj (by omega) (by have := hs.c0; omega) (h.n0.symm.trans hs.h0)
  obtain rfl : nf = nf9 := nI_inj (by omega) (by have := hs.c1; omega) (h.n1.symm.trans hs.h1)
  obtain rfl : nr = nr9 := nI_inj (by omega) (by have := hs.c2; omega) (h.n2.symm.trans hs.h2)
  obtain rfl : na = na9 := nI_inj (by omega) (by have := hs.c3; omega) (h.n3.symm.trans hs.h3)
  obtain rfl : nt = nt9 := nI_inj (by omega) (by have := hs.c4; omega) (h.n4.symm.trans hs.h4)
  rcases hc with ⟨c1, c2⟩ | ⟨x, k, hx, ex, hk, ek, c2⟩
  · rcases hm with ⟨_, m2⟩ | ⟨y, l, hy, ey, hl, el, _⟩
    · rw [c2, m2]
    · exact absurd ⟨by rw [ey]; exact inN_n hy (by omega), by rw [el]; exact inB_k1 hl⟩ c1
  · rcases hm with ⟨m1, _⟩ | ⟨y, l, hy, ey, hl, el, m2⟩
    · exact absurd ⟨by rw [ex]; exact inN_n hx (by omega), by rw [ek]; exact inB_k1 hk⟩ m1
    · obtain rfl : x = y := nI_inj (by omega) (by omega) (ex.symm.trans ey)
      obtain rfl : k = l := nI_inj (by omega) (by omega) (ek.symm.trans el)
      have e0 : ct (70 * x + 0) = s (10 * x + 1546) := (h.e4 x hx 0 (by omega)).symm
      have e2 : ct (70 * x + 2) = s (10 * x + 1548) := (h.e4 x hx 2 (by omega)).symm
      have e5 : (if k = 0 then cBx np nf nr na dp df dr da ct LL LG x else tvP np (nvF (fun i c => dp (4 * i + c)) (fun t c => ct (70 * t + c)) (cJr np nf nr na dp df dr da ct LL LG) (s (10 * x + 1546)) nt) ((fcB (fun i c => da (3 * i + c)) 0 (s (10 * x + 1546)) na).map (fun z => rdO (LL z) (LG z)))) = (if k = 0 then rBx np nf nr na s x else tvP np (nvF (fun i c => s (4 * i + c + 10)) (fun t c => s (10 * t + c + 1546)) (rJr np nf nr na s) (s (10 * x + 1546)) nt) ((fcB (fun i c => s (54 * i + c + 466)) 0 (s (10 * x + 1546)) na).map (rL s))) := by
        by_cases hk0 : k = 0
        · rw [if_pos hk0, if_pos hk0]; exact (rcF_hear h hx).2.2
        · rw [if_neg hk0, if_neg hk0, rcF_law h]
          exact tvP_congr (fun p hp => rcF_nv h hp)
      rw [c2, m2, e0, e2, e5]
      exact twA_congr (fun p hp => (h.e0 (4 * p + 0) (by omega)).symm)
theorem rQ_beside {na : Nat} {da : Nat → Int32} {LL : Nat → Nat} {LG : Nat → Nat → Int32} {np nf nr nt : Nat} {dp df dr ct : Nat → Int32} {pay fine : Int32} {T : Nat → Nat} {S : Nat → Nat → Int32} {s : Nat → Int32} {np9 nf9 nr9 na9 nt9 : Nat} {z z' a1 a2 a3 : Int32} (h : rcF na da LL LG np nf nr nt dp df dr ct pay fine T S s) (hs : stOK s np9 nf9 nr9 na9 nt9) (hc : (¬ (inN a1 nt = true ∧ inB 0 a2 3 = true ∧ inB 0 a3 1 = true) ∧ z = -2) ∨ (∃ x y k, x < nt ∧ a1 = nI x ∧ y ≤ 3 ∧ a2 = nI y ∧ k ≤ 1 ∧ a3 = nI k ∧ ((¬ rdA (T y) (S y) = -1 ∧ z = -3) ∨ (rdA (T y) (S y) = -1 ∧ z = cJr np nf nr na dp df dr da ct LL LG x ^^^ bsV np nf nr (fun i c => dp (4 * i + c)) (fun i c => df (3 * i + c)) (fun i c => dr (3 * i + c)) (fun t c => ct (70 * t + c)) (cJr np nf nr na dp df dr da ct LL LG) x (bsO k 0 (rdO (T y) (S y)) ((fcB (fun i c => da (3 * i + c)) 0 (ct (70 * x + 0)) na).map (fun z => rdO (LL z) (LG z)))) (bsO k 1 (rdO (T y) (S y)) ((fcB (fun i c => da (3 * i + c)) 1 (ct (70 * x + 0)) na).map (fun z => rdO (LL z) (LG z)))) (fun c => ct (70 * x + c)))))) (hm : (¬ (inN a1 nt9 = true ∧ inB 0 a2 3 = true ∧ inB 0 a3 1 = true) ∧ z' = -2) ∨ (∃ x y k l, x < nt9 ∧ a1 = nI x ∧ y ≤ 3 ∧ a2 = nI y ∧ k ≤ 1 ∧ a3 = nI k ∧ l ≤ 50 ∧ s (51 * y + 262) = nI l ∧ ((¬ rdA l (fun k => s (51 * y + 262 + k + 1)) = -1 ∧ z' = -3) ∨ (rdA l (fun k => s (51 * y + 262 + k + 1)) = -1 ∧ z' = rJr np9 nf9 nr9 na9 s x ^^^ bsV np9 nf9 nr9 (fun i c => s (4 * i + c + 10)) (fun i c => s (3 * i + c + 130)) (fun i c => s (3 * i + c + 250)) (fun t c => s (10 * t + c + 1546)) (rJr np9 nf9 nr9 na9 s) x (bsO k 0 (rdO l (fun k => s (51 * y + 262 + k + 1))) ((fcB (fun i c => s (54 * i + c + 466)) 0 (s (10 * x + 1546)) na9).map (rL s))) (bsO k 1 (rdO l (fun k => s (51 * y + 262 + k + 1))) ((fcB (fun i c => s (54 * i + c + 466)) 1 (s (10 * x + 1546)) na9).map (rL s))) (kS s x))))) : z = z' := by
  have b3 := h.b3
  have b0 := h.b0
  have b1 := h.b1
  have b2 := h.b2
  have b4 := h.b4
  obtain rfl : np = np9 := nI_inj (by omega) (by have := hs.c0; omega) (h.n0.symm.trans hs.h0)
  obtain rfl : nf = nf9 := nI_inj (by omega) (by have := hs.c1; omega) (h.n1.symm.trans hs.h1)
  obtain rfl : nr = nr9 := nI_inj (by omega) (by have := hs.c2; omega) (h.n2.symm.trans hs.h2)
  obtain rfl : na = na9 := nI_inj (by omega) (by have := hs.c3; omega) (h.n3.symm.trans hs.h3)
  obtain rfl : nt = nt9 := nI_inj (by omega) (by have := hs.c4; omega) (h.n4.symm.trans hs.h4)
  rcases hc with ⟨c1, c2⟩ | ⟨x, y, k, hx, ex, hy, ey, hk, ek, c2⟩
  · rcases hm with ⟨_, m2⟩ | ⟨u, v, j, l, hu, eu, hv, ev9, hj, ej, _⟩
    · rw [c2, m2]
    · exact absurd ⟨by rw [eu]; exact inN_n hu (by omega), by rw [ev9]; exact inB_03 v hv, by rw [ej]; exact inB_k1 hj⟩ c1
  · rcases hm with ⟨m1, _⟩ | ⟨u, v, j, l, hu, eu, hv, ev9, hj, ej, hl5, el, m2⟩
    · exact absurd ⟨by rw [ex]; exact inN_n hx (by omega), by rw [ey]; exact inB_03 y hy, by rw [ek]; exact inB_k1 hk⟩ m1
    · obtain rfl : x = u := nI_inj (by omega) (by omega) (ex.symm.trans eu)
      obtain rfl : y = v := nI_inj (by omega) (by omega) (ey.symm.trans ev9)
      obtain rfl : k = j := nI_inj (by omega) (by omega) (ek.symm.trans ej)
      have h1 := h.tt y (by omega)
      have h2 := h.tb y (by omega)
      have hl : l = T y := nI_inj (by omega) (by omega) (el.symm.trans h1)
      subst hl
      have eC : ∀ k, k < T y → S y k = (fun k => s (51 * y + 262 + k + 1)) k := fun k hk => by
        show S y k = s (51 * y + 262 + k + 1)
        rw [show 51 * y + 262 + k + 1 = 51 * y + k + 263 by omega]
        exact (h.ts y (by omega) k hk).symm
      have e0 : ct (70 * x + 0) = s (10 * x + 1546) := (h.e4 x hx 0 (by omega)).symm
      rw [← rdA_congr eC, ← rdO_congr eC] at m2
      rcases c2 with ⟨d1, d2⟩ | ⟨d1, d2⟩
      · rcases m2 with ⟨_, g2⟩ | ⟨g1, _⟩
        · rw [d2, g2]
        · exact absurd g1 d1
      · rcases m2 with ⟨g1, _⟩ | ⟨_, g2⟩
        · exact absurd d1 g1
        · rw [d2, g2, e0, rcF_law h, rcF_law h, (rcF_hear h hx).1]
          refine congrArg (fun w => rJr np nf nr na s x ^^^ w) ?_
          exact bsV_congr (fun i hi c hc => (h.e0 (4 * i + c) (by omega)).symm) (fun i hi c hc => (h.e1 (3 * i + c) (by omega)).symm) (fun i hi c hc => (h.e2 (3 * i + c) (by omega)).symm) (fun q hq c hc => (h.e4 q (by omega) c hc).symm) (fun q hq => (rcF_hear h (by omega)).1) (rcF_row h hx)

