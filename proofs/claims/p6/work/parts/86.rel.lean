def rc (np nf : Nat) (T : Nat → Nat) (s : Nat → Int32) : Prop := s 0 = nI np ∧ s 1 = nI nf ∧ np ≤ 30 ∧ nf ≤ 40 ∧ ∀ x, x < 4 → s (51 * x + 262) = nI (T x) ∧ T x ≤ 50
theorem rc_keep {np nf : Nat} {T : Nat → Nat} {s s' : Nat → Int32} (h : rc np nf T s) (e0 : s' 0 = s 0) (e1 : s' 1 = s 1) (ex : ∀ x, x < 4 → s' (51 * x + 262) = s (51 * x + 262)) : rc np nf T s' :=
  ⟨e0.trans h.1, e1.trans h.2.1, h.2.2.1, h.2.2.2.1, fun x hx => ⟨(ex x hx).trans (h.2.2.2.2 x hx).1, (h.2.2.2.2 x hx).2⟩⟩
theorem rc_upd {np nf K : Nat} {T : Nat → Nat} {s : Nat → Int32} {v : Int32} (h : rc np nf T s) (h0 : 2 ≤ K) (hx : ∀ x, x < 4 → 51 * x + 262 ≠ K) : rc np nf T (upd s K v) :=
  rc_keep h (pk_un (by omega)) (pk_un (by omega)) (fun x q => pk_un (hx x q))
def rel (np nf : Nat) (TL : Nat → Nat) (N1 : Nat → Nat) (L1 : Nat → Nat) (N2 : Nat → Nat) (L2 : Nat → Nat) (kf ss im kq : Nat → Int32) : Prop := rc np nf TL ss ∧ rc (N1 0) (N1 1) L1 im ∧ rc (N2 0) (N2 1) L2 (fun k => im (k + 2246)) ∧ kf 0 = kq 0 ∧ kf 1 = kq 1
theorem nI_inj {a b : Nat} (ha : a ≤ 50) (hb : b ≤ 50) (h : nI a = nI b) : a = b := (nI_eq (by omega) (by omega)).mp h
theorem rl_person {np nf p9 f9 r9 u9 t9 np' : Nat} {T : Nat → Nat} {ss ss' dp dp' W : Nat → Int32} {z z' : Int32} {OK : Prop} {a1 a2 a3 a4 : Int32} (h : rc np nf T ss) (hs : stOK ss p9 f9 r9 u9 t9)
    (hc : (¬ OK ∧ z = -2 ∧ np' = np ∧ dp' = dp) ∨ (OK ∧ ¬ np < 30 ∧ z = -4 ∧ np' = np ∧ dp' = dp) ∨ (OK ∧ np < 30 ∧ z = nI np ∧ np' = np + 1 ∧ dp' = W))
    (hm : (¬ OK ∧ z' = -2 ∧ ss' = ss) ∨ (OK ∧ p9 = 30 ∧ z' = -4 ∧ ss' = ss) ∨ (OK ∧ p9 < 30 ∧ z' = nI p9 ∧ ss' = upd (upd (upd (upd (upd ss (4 * p9 + 10) a1) (4 * p9 + 11) a2) (4 * p9 + 12) a3) (4 * p9 + 13) a4) 0 (nI (p9 + 1)))) : z = z' ∧ rc np' nf T ss' := by
  have e : p9 = np := nI_inj (by have := hs.c0; omega) (by have := h.2.2.1; omega) (hs.h0.symm.trans h.1)
  subst e
  have hb := h.2.2.1
  rcases hc with ⟨c1, c2, c3, _⟩ | ⟨c1, c0, c2, c3, _⟩ | ⟨c1, c0, c2, c3, _⟩
  · rcases hm with ⟨m1, m2, m3⟩ | ⟨m1, _⟩ | ⟨m1, _⟩
    · rw [c2, m2, c3, m3]; exact ⟨rfl, h⟩
    · exact absurd m1 c1
    · exact absurd m1 c1
  · rcases hm with ⟨m1, _⟩ | ⟨m1, m0, m2, m3⟩ | ⟨m1, m0, _⟩
    · exact absurd c1 m1
    · rw [c2, m2, c3, m3]; exact ⟨rfl, h⟩
    · exact absurd m0 c0
  · rcases hm with ⟨m1, _⟩ | ⟨m1, m0, _⟩ | ⟨m1, m0, m2, m3⟩
    · exact absurd c1 m1
    · omega
    · rw [c2, m2, c3, m3]
      have h4 := rc_upd (v := a4) (rc_upd (v := a3) (rc_upd (v := a2) (rc_upd (v := a1) h (K := 4 * p9 + 10) (by omega) (fun x q => by omega)) (K := 4 * p9 + 11) (by omega) (fun x q => by omega)) (K := 4 * p9 + 12) (by omega) (fun x q => by omega)) (K := 4 * p9 + 13) (by omega) (fun x q => by omega)
      exact ⟨rfl, pk_us, (pk_un (by decide)).trans h4.2.1, by omega, h4.2.2.2.1, fun x q => ⟨(pk_un (by omega)).trans (h4.2.2.2.2 x q).1, (h4.2.2.2.2 x q).2⟩⟩
theorem rl_kin {np nf p9 f9 r9 u9 t9 nf' : Nat} {T : Nat → Nat} {ss ss' df df' W : Nat → Int32} {z z' : Int32} {OK : Nat → Prop} {a1 a2 a3 : Int32} (h : rc np nf T ss) (hs : stOK ss p9 f9 r9 u9 t9)
    (hc : (¬ OK np ∧ z = -2 ∧ nf' = nf ∧ df' = df) ∨ (OK np ∧ ¬ nf < 40 ∧ z = -4 ∧ nf' = nf ∧ df' = df) ∨ (OK np ∧ nf < 40 ∧ z = nI nf ∧ nf' = nf + 1 ∧ df' = W))
    (hm : (¬ OK p9 ∧ z' = -2 ∧ ss' = ss) ∨ (OK p9 ∧ f9 = 40 ∧ z' = -4 ∧ ss' = ss) ∨ (OK p9 ∧ f9 < 40 ∧ z' = nI f9 ∧ ss' = upd (upd (upd (upd ss (3 * f9 + 130) a1) (3 * f9 + 131) a2) (3 * f9 + 132) a3) 1 (nI (f9 + 1)))) : z = z' ∧ rc np nf' T ss' := by
  have e : p9 = np := nI_inj (by have := hs.c0; omega) (by have := h.2.2.1; omega) (hs.h0.symm.trans h.1)
  have e2 : f9 = nf := nI_inj (by have := hs.c1; omega) (by have := h.2.2.2.1; omega) (hs.h1.symm.trans h.2.1)
  subst e
  subst e2
  have hb := h.2.2.2.1
  rcases hc with ⟨c1, c2, c3, _⟩ | ⟨c1, c0, c2, c3, _⟩ | ⟨c1, c0, c2, c3, _⟩
  · rcases hm with ⟨m1, m2, m3⟩ | ⟨m1, _⟩ | ⟨m1, _⟩
    · rw [c2, m2, c3, m3]; exact ⟨rfl, h⟩
    · exact absurd m1 c1
    · exact absurd m1 c1
  · rcases hm with ⟨m1, _⟩ | ⟨m1, m0, m2, m3⟩ | ⟨m1, m0, _⟩
    · exact absurd c1 m1
    · rw [c2, m2, c3, m3]; exact ⟨rfl, h⟩
    · exact absurd m0 c0
  · rcases hm with ⟨m1, _⟩ | ⟨m1, m0, _⟩ | ⟨m1, m0, m2, m3⟩
    · exact absurd c1 m1
    · omega
    · rw [c2, m2, c3, m3]
      have h4 := rc_upd (v := a3) (rc_upd (v := a2) (rc_upd (v := a1) h (K := 3 * f9 + 130) (by omega) (fun x q => by omega)) (K := 3 * f9 + 131) (by omega) (fun x q => by omega)) (K := 3 * f9 + 132) (by omega) (fun x q => by omega)
      exact ⟨rfl, (pk_un (by decide)).trans h4.1, pk_us, h4.2.2.1, by omega, fun x q => ⟨(pk_un (by omega)).trans (h4.2.2.2.2 x q).1, (h4.2.2.2.2 x q).2⟩⟩
theorem rl_write {np nf : Nat} {T T' : Nat → Nat} {S S' : Nat → Nat → Int32} {V : Nat → Nat → Nat → Int32} {ss ss' : Nat → Int32} {z z' a1 a2 : Int32} {OK : Prop} (h : rc np nf T ss)
    (hc : (¬ OK ∧ z = -2 ∧ T' = T ∧ S' = S) ∨ (OK ∧ ∃ x, x ≤ 3 ∧ a1 = nI x ∧ ((¬ T x < 50 ∧ z = -4 ∧ T' = T ∧ S' = S) ∨ (T x < 50 ∧ z = nI (T x + 1) ∧ T' = upN T x (T x + 1) ∧ S' = V x))))
    (hm : (¬ OK ∧ z' = -2 ∧ ss' = ss) ∨ (OK ∧ ∃ x l, x ≤ 3 ∧ a1 = nI x ∧ l ≤ 50 ∧ ss (51 * x + 262) = nI l ∧ ((l = 50 ∧ z' = -4 ∧ ss' = ss) ∨ (l < 50 ∧ z' = nI (l + 1) ∧ ss' = upd (upd ss (51 * x + 262) (nI (l + 1))) (l + 51 * x + 263) a2)))) : z = z' ∧ rc np nf T' ss' := by
  rcases hc with ⟨c1, c2, c3, _⟩ | ⟨c1, x, hx, ex, hc⟩
  · rcases hm with ⟨m1, m2, m3⟩ | ⟨m1, _⟩
    · rw [c2, m2, c3, m3]; exact ⟨rfl, h⟩
    · exact absurd m1 c1
  · rcases hm with ⟨m1, _⟩ | ⟨m1, y, l, hy, ey, hl, el, hm⟩
    · exact absurd c1 m1
    · have e : y = x := nI_inj (by omega) (by omega) (ey.symm.trans ex)
      subst e
      obtain ⟨h5, h6⟩ := h.2.2.2.2 y (by omega)
      have e2 : l = T y := nI_inj hl h6 (el.symm.trans h5)
      subst e2
      rcases hc with ⟨c0, c2, c3, _⟩ | ⟨c0, c2, c3, _⟩
      · rcases hm with ⟨m0, m2, m3⟩ | ⟨m0, _⟩
        · rw [c2, m2, c3, m3]; exact ⟨rfl, h⟩
        · exact absurd m0 c0
      · rcases hm with ⟨m0, _⟩ | ⟨m0, m2, m3⟩
        · omega
        · rw [c2, m2, c3, m3]
          refine ⟨rfl, (pk_un (by omega)).trans ((pk_un (by omega)).trans h.1), (pk_un (by omega)).trans ((pk_un (by omega)).trans h.2.1), h.2.2.1, h.2.2.2.1, fun q hq => ?_⟩
          by_cases e9 : q = y
          · subst e9
            rw [upN_s]
            exact ⟨(pk_un (by omega)).trans pk_us, by omega⟩
          · rw [upN_o e9]
            exact ⟨(pk_un (by omega)).trans ((pk_un (by omega)).trans (h.2.2.2.2 q hq).1), (h.2.2.2.2 q hq).2⟩
theorem rl_erase {np nf : Nat} {T T' : Nat → Nat} {ss ss' : Nat → Int32} {z z' a1 : Int32} {OK : Prop} (h : rc np nf T ss) (hok : ∀ x, x ≤ 3 → a1 = nI x → OK)
    (hc : (¬ OK ∧ z = -2 ∧ T' = T) ∨ (∃ x, x ≤ 3 ∧ a1 = nI x ∧ z = nI (T x) ∧ T' = upN T x 0))
    (hm : (¬ OK ∧ z' = -2 ∧ ss' = ss) ∨ (∃ x l, x ≤ 3 ∧ a1 = nI x ∧ ss (51 * x + 262) = nI l ∧ z' = nI l ∧ ss' = upd ss (51 * x + 262) 0)) : z = z' ∧ rc np nf T' ss' := by
  rcases hc with ⟨c1, c2, c3⟩ | ⟨x, hx, ex, c2, c3⟩
  · rcases hm with ⟨m1, m2, m3⟩ | ⟨y, l, hy, ey, _⟩
    · rw [c2, m2, c3, m3]; exact ⟨rfl, h⟩
    · exact absurd (hok y hy ey) c1
  · rcases hm with ⟨m1, _⟩ | ⟨y, l, hy, ey, el, m2, m3⟩
    · exact absurd (hok x hx ex) m1
    · have e : y = x := nI_inj (by omega) (by omega) (ey.symm.trans ex)
      subst e
      rw [c2, m2, c3, m3, ← el]
      obtain ⟨h5, h6⟩ := h.2.2.2.2 y (by omega)
      refine ⟨h5.symm, (pk_un (by omega)).trans h.1, (pk_un (by omega)).trans h.2.1, h.2.2.1, h.2.2.2.1, fun q hq => ?_⟩
      by_cases e9 : q = y
      · subst e9
        rw [upN_s]
        exact ⟨pk_us, by omega⟩
      · rw [upN_o e9]
        exact ⟨(pk_un (by omega)).trans (h.2.2.2.2 q hq).1, (h.2.2.2.2 q hq).2⟩
theorem rc_zero {T : Nat → Nat} {s : Nat → Int32} (h0 : s 0 = 0) (h1 : s 1 = 0) (hx : ∀ x, x < 4 → s (51 * x + 262) = 0) (hT : ∀ x, T x = 0) : rc 0 0 T s := ⟨h0, h1, by omega, by omega, fun x q => ⟨(hx x q).trans (by rw [hT x]; rfl), by rw [hT x]; omega⟩⟩
theorem rl_image {np nf nr nt : Nat} {dp df dr ct : Nat → Int32} {pay fine : Int32} {TL L1 L2 L1' L2' N1 N2 N1' N2' : Nat → Nat} {TG S1 S2 S1' S2' E1 E2 E1' E2' : Nat → Nat → Int32} {P1 P2 P1' P2' : Nat → Int32} {kf kf' ss im im' kq kq' : Nat → Int32} {z z' a1 : Int32} {OK : Prop} (hOK : ∀ x : Int32, a1 = x → (x = 0 ∨ x = 1) → OK) (h : rel np nf TL N1 L1 N2 L2 kf ss im kq)
    (hc : (¬ OK ∧ z = -2 ∧ kf' = kf ∧ N1' = N1 ∧ E1' = E1 ∧ P1' = P1 ∧ L1' = L1 ∧ S1' = S1 ∧ N2' = N2 ∧ E2' = E2 ∧ P2' = P2 ∧ L2' = L2 ∧ S2' = S2) ∨ (a1 = 0 ∧ z = 1 ∧ kf' = upd kf (Int32.toNatClampNeg 0) (vp_nar .boolean 1) ∧ eqD N1' E1' P1' L1' S1' (mkN np nf nr nt) (mkE dp df dr ct) (mkP pay fine) TL TG ∧ N2' = N2 ∧ E2' = E2 ∧ P2' = P2 ∧ L2' = L2 ∧ S2' = S2) ∨ (a1 = 1 ∧ z = 1 ∧ kf' = upd kf (Int32.toNatClampNeg 1) (vp_nar .boolean 1) ∧ eqD N2' E2' P2' L2' S2' (mkN np nf nr nt) (mkE dp df dr ct) (mkP pay fine) TL TG ∧ N1' = N1 ∧ E1' = E1 ∧ P1' = P1 ∧ L1' = L1 ∧ S1' = S1))
    (hm : (¬ OK ∧ z' = -2 ∧ im' = im ∧ kq' = kq) ∨ (a1 = 0 ∧ z' = 1 ∧ (∀ q, q < 2246 → im' q = ss q) ∧ (∀ j, 2246 ≤ j → im' j = im j) ∧ kq' = upd kq 0 (vp_nar .boolean 1)) ∨ (a1 = 1 ∧ z' = 1 ∧ (∀ q, q < 2246 → im' (q + 2246) = ss q) ∧ (∀ j, j < 2246 → im' j = im j) ∧ kq' = upd kq 1 (vp_nar .boolean 1))) : z = z' ∧ rel np nf TL N1' L1' N2' L2' kf' ss im' kq' := by
  obtain ⟨r0, r1, r2, k0, k1⟩ := h
  rcases hc with ⟨c1, c2, rfl, rfl, -, -, rfl, -, rfl, -, -, rfl, -⟩ | ⟨c1, c2, rfl, ed, rfl, -, -, rfl, -⟩ | ⟨c1, c2, rfl, ed, rfl, -, -, rfl, -⟩
  · rcases hm with ⟨m1, m2, rfl, rfl⟩ | ⟨m1, _⟩ | ⟨m1, _⟩
    · rw [c2, m2]; exact ⟨rfl, r0, r1, r2, k0, k1⟩
    · exact absurd (hOK _ m1 (Or.inl rfl)) c1
    · exact absurd (hOK _ m1 (Or.inr rfl)) c1
  · rcases hm with ⟨m1, _⟩ | ⟨m1, m2, m3, m4, rfl⟩ | ⟨m1, _⟩
    · exact absurd (hOK _ c1 (Or.inl rfl)) m1
    · obtain ⟨e0, e1, -, -, -, -, -, -, -, -, eT, -⟩ := ed
      have e0 : N1' 0 = np := e0
      have e1 : N1' 1 = nf := e1
      rw [c2, m2]
      refine ⟨rfl, r0, ?_, rc_keep r2 (m4 _ (by omega)) (m4 _ (by omega)) (fun x q => m4 _ (by omega)), rfl, k1⟩
      rw [e0, e1]
      exact ⟨(m3 0 (by omega)).trans r0.1, (m3 1 (by omega)).trans r0.2.1, r0.2.2.1, r0.2.2.2.1, fun x q => ⟨(m3 _ (by omega)).trans ((r0.2.2.2.2 x q).1.trans (congrArg nI (eT x q).symm)), by rw [eT x q]; exact (r0.2.2.2.2 x q).2⟩⟩
    · exact absurd (c1.symm.trans m1) (by decide)
  · rcases hm with ⟨m1, _⟩ | ⟨m1, _⟩ | ⟨m1, m2, m3, m4, rfl⟩
    · exact absurd (hOK _ c1 (Or.inr rfl)) m1
    · exact absurd (c1.symm.trans m1) (by decide)
    · obtain ⟨e0, e1, -, -, -, -, -, -, -, -, eT, -⟩ := ed
      have e0 : N2' 0 = np := e0
      have e1 : N2' 1 = nf := e1
      rw [c2, m2]
      refine ⟨rfl, r0, rc_keep r1 (m4 _ (by omega)) (m4 _ (by omega)) (fun x q => m4 _ (by omega)), ?_, k0, rfl⟩
      rw [e0, e1]
      exact ⟨(m3 0 (by omega)).trans r0.1, (m3 1 (by omega)).trans r0.2.1, r0.2.2.1, r0.2.2.2.1, fun x q => ⟨(m3 _ (by omega)).trans ((r0.2.2.2.2 x q).1.trans (congrArg nI (eT x q).symm)), by rw [eT x q]; exact (r0.2.2.2.2 x q).2⟩⟩
theorem rl_from {np nf nr nt np' nf' nr' nt' : Nat} {dp df dr ct dp' df' dr' ct' : Nat → Int32} {pay fine pay' fine' : Int32} {TL TL' L1 L2 N1 N2 : Nat → Nat} {TG TG' S1 S2 E1 E2 : Nat → Nat → Int32} {P1 P2 : Nat → Int32} {kf ss ss' im kq : Nat → Int32} {z z' a1 : Int32} {OK : Prop} (hOK : ∀ x : Int32, a1 = x → (x = 0 ∨ x = 1) → OK) (h : rel np nf TL N1 L1 N2 L2 kf ss im kq)
    (hc : (¬ OK ∧ z = -2 ∧ np' = np ∧ dp' = dp ∧ nf' = nf ∧ df' = df ∧ nr' = nr ∧ dr' = dr ∧ nt' = nt ∧ ct' = ct ∧ pay' = pay ∧ fine' = fine ∧ TL' = TL ∧ TG' = TG) ∨ (a1 = 0 ∧ ((kf (Int32.toNatClampNeg 0) = 0 ∧ z = -3 ∧ np' = np ∧ dp' = dp ∧ nf' = nf ∧ df' = df ∧ nr' = nr ∧ dr' = dr ∧ nt' = nt ∧ ct' = ct ∧ pay' = pay ∧ fine' = fine ∧ TL' = TL ∧ TG' = TG) ∨ (¬ kf (Int32.toNatClampNeg 0) = 0 ∧ z = 1 ∧ eqD (mkN np' nf' nr' nt') (mkE dp' df' dr' ct') (mkP pay' fine') TL' TG' N1 E1 P1 L1 S1))) ∨ (a1 = 1 ∧ ((kf (Int32.toNatClampNeg 1) = 0 ∧ z = -3 ∧ np' = np ∧ dp' = dp ∧ nf' = nf ∧ df' = df ∧ nr' = nr ∧ dr' = dr ∧ nt' = nt ∧ ct' = ct ∧ pay' = pay ∧ fine' = fine ∧ TL' = TL ∧ TG' = TG) ∨ (¬ kf (Int32.toNatClampNeg 1) = 0 ∧ z = 1 ∧ eqD (mkN np' nf' nr' nt') (mkE dp' df' dr' ct') (mkP pay' fine') TL' TG' N2 E2 P2 L2 S2))))
    (hm : (¬ OK ∧ z' = -2 ∧ ss' = ss) ∨ (∃ x, x ≤ 1 ∧ a1 = nI x ∧ ((kq x = 0 ∧ z' = -3 ∧ ss' = ss) ∨ (¬ kq x = 0 ∧ z' = 1 ∧ ∀ q, q < 2246 → ss' q = im (q + 2246 * x))))) : z = z' ∧ rel np' nf' TL' N1 L1 N2 L2 kf ss' im kq := by
  obtain ⟨r0, r1, r2, k0, k1⟩ := h
  have k0 : kf (Int32.toNatClampNeg 0) = kq 0 := k0
  have k1 : kf (Int32.toNatClampNeg 1) = kq 1 := k1
  rcases hc with ⟨c1, c2, rfl, -, rfl, -, -, -, -, -, -, -, rfl, -⟩ | ⟨c1, hc⟩ | ⟨c1, hc⟩
  · rcases hm with ⟨m1, m2, rfl⟩ | ⟨x, hx, ex, _⟩
    · rw [c2, m2]; exact ⟨rfl, r0, r1, r2, k0, k1⟩
    · rcases (show x = 0 ∨ x = 1 by omega) with rfl | rfl
      · exact absurd (hOK _ ex (Or.inl rfl)) c1
      · exact absurd (hOK _ ex (Or.inr rfl)) c1
  · rcases hm with ⟨m1, _⟩ | ⟨x, hx, ex, hm⟩
    · exact absurd (hOK _ c1 (Or.inl rfl)) m1
    · have e : x = 0 := nI_inj (by omega) (by omega) (ex.symm.trans c1)
      subst e
      rcases hc with ⟨c0, c2, rfl, -, rfl, -, -, -, -, -, -, -, rfl, -⟩ | ⟨c0, c2, ed⟩
      · rcases hm with ⟨m0, m2, rfl⟩ | ⟨m0, _⟩
        · rw [c2, m2]; exact ⟨rfl, r0, r1, r2, k0, k1⟩
        · exact absurd (k0.symm.trans c0) m0
      · rcases hm with ⟨m0, _⟩ | ⟨m0, m2, m3⟩
        · exact absurd (k0.trans m0) c0
        · obtain ⟨e0, e1, -, -, -, -, -, -, -, -, eT, -⟩ := ed
          have e0 : np' = N1 0 := e0
          have e1 : nf' = N1 1 := e1
          rw [c2, m2]
          refine ⟨rfl, ?_, r1, r2, k0, k1⟩
          rw [e0, e1]
          exact ⟨(m3 0 (by omega)).trans r1.1, (m3 1 (by omega)).trans r1.2.1, r1.2.2.1, r1.2.2.2.1, fun x q => ⟨(m3 _ (by omega)).trans ((r1.2.2.2.2 x q).1.trans (congrArg nI (eT x q).symm)), by rw [eT x q]; exact (r1.2.2.2.2 x q).2⟩⟩
  · rcases hm with ⟨m1, _⟩ | ⟨x, hx, ex, hm⟩
    · exact absurd (hOK _ c1 (Or.inr rfl)) m1
    · have e : x = 1 := nI_inj (by omega) (by omega) (ex.symm.trans c1)
      subst e
      rcases hc with ⟨c0, c2, rfl, -, rfl, -, -, -, -, -, -, -, rfl, -⟩ | ⟨c0, c2, ed⟩
      · rcases hm with ⟨m0, m2, rfl⟩ | ⟨m0, _⟩
        · rw [c2, m2]; exact ⟨rfl, r0, r1, r2, k0, k1⟩
        · exact absurd (k1.symm.trans c0) m0
      · rcases hm with ⟨m0, _⟩ | ⟨m0, m2, m3⟩
        · exact absurd (k1.trans m0) c0
        · obtain ⟨e0, e1, -, -, -, -, -, -, -, -, eT, -⟩ := ed
          have e0 : np' = N2 0 := e0
          have e1 : nf' = N2 1 := e1
          rw [c2, m2]
          refine ⟨rfl, ?_, r1, r2, k0, k1⟩
          rw [e0, e1]
          exact ⟨(m3 0 (by omega)).trans r2.1, (m3 1 (by omega)).trans r2.2.1, r2.2.2.1, r2.2.2.2.1, fun x q => ⟨(m3 _ (by omega)).trans ((r2.2.2.2.2 x q).1.trans (congrArg nI (eT x q).symm)), by rw [eT x q]; exact (r2.2.2.2.2 x q).2⟩⟩
theorem inB_03 : ∀ x, x ≤ 3 → inB 0 (nI x) 3 = true := by decide
theorem rk_roll {np nf r9 : Nat} {T : Nat → Nat} {ss ss' : Nat → Int32} {z' a1 a2 a3 : Int32} {OK : Prop} (h : rc np nf T ss) (hm : (¬ OK ∧ z' = -2 ∧ ss' = ss) ∨ (OK ∧ r9 = 4 ∧ z' = -4 ∧ ss' = ss) ∨ (OK ∧ r9 < 4 ∧ z' = nI r9 ∧ ss' = upd (upd (upd (upd ss (3 * r9 + 250) a1) (3 * r9 + 251) a2) (3 * r9 + 252) a3) 2 (nI (r9 + 1)))) : rc np nf T ss' := by
  rcases hm with ⟨_, _, rfl⟩ | ⟨_, _, _, rfl⟩ | ⟨_, hr, _, rfl⟩
  · exact h
  · exact h
  · exact rc_upd (rc_upd (rc_upd (rc_upd h (by omega) (fun x q => by omega)) (by omega) (fun x q => by omega)) (by omega) (fun x q => by omega)) (by omega) (fun x q => by omega)
theorem rk_sums {np nf : Nat} {T : Nat → Nat} {ss ss' : Nat → Int32} {z' a1 a2 : Int32} {OK : Prop} (h : rc np nf T ss) (hm : (¬ OK ∧ z' = -2 ∧ ss' = ss) ∨ (OK ∧ z' = 1 ∧ ss' = upd (upd ss 5 a1) 6 a2)) : rc np nf T ss' := by
  rcases hm with ⟨_, _, rfl⟩ | ⟨_, _, rfl⟩
  · exact h
  · exact rc_upd (rc_upd h (by omega) (fun x q => by omega)) (by omega) (fun x q => by omega)
theorem rk_un {np nf : Nat} {T : Nat → Nat} {ss ss' : Nat → Int32} (h : rc np nf T ss) (hm : ∀ k, (k < 3 ∨ (3 < k ∧ k < 466) ∨ 1546 ≤ k) → ss' k = ss k) : rc np nf T ss' :=
  rc_keep h (hm _ (by omega)) (hm _ (by omega)) (fun x q => hm _ (by omega))
theorem rk_away {np nf p9 t9 : Nat} {T : Nat → Nat} {ss ss' : Nat → Int32} {z' a1 a2 : Int32} {B : Prop} {C D : Nat → Prop} {V : Nat → Int32} (h : rc np nf T ss) (hm : (¬ B ∧ z' = -2 ∧ ss' = ss) ∨ (inN a2 p9 = true ∧ ∃ x, x < t9 ∧ a1 = nI x ∧ ((C x ∧ z' = -3 ∧ ss' = ss) ∨ (D x ∧ z' = 1 ∧ ss' = upd ss (10 * x + 1555) (V x))))) : rc np nf T ss' := by
  rcases hm with ⟨_, _, rfl⟩ | ⟨_, x, hx, _, ⟨_, _, rfl⟩ | ⟨_, _, rfl⟩⟩
  · exact h
  · exact h
  · exact rc_upd h (by omega) (fun x q => by omega)
theorem rk_like {np nf p9 t9 : Nat} {T : Nat → Nat} {ss ss' : Nat → Int32} {z' a1 a2 a3 a4 : Int32} {B C : Prop} (h : rc np nf T ss) (hm : (¬ B ∧ z' = -1000 ∧ ss' = ss) ∨ (C ∧ ∃ x y q, x < t9 ∧ a1 = nI x ∧ y ≤ 1 ∧ a2 = nI y ∧ q < p9 ∧ a3 = nI q ∧ z' = ss (q + 30 * y + 60 * x + 1646) ∧ ss' = upd ss (q + 30 * y + 60 * x + 1646) a4)) : rc np nf T ss' := by
  rcases hm with ⟨_, _, rfl⟩ | ⟨_, x, y, q, _, _, _, _, _, _, _, rfl⟩
  · exact h
  · exact rc_upd h (by omega) (fun x q => by omega)
theorem rk_trial {np nf t9 : Nat} {T : Nat → Nat} {ss ss' : Nat → Int32} {z' a1 a2 a3 a4 a5 a6 a7 a8 a9 : Int32} {OK : Prop} {X Y : (Nat → Int32) → Prop} (h : rc np nf T ss) (hm : (¬ OK ∧ z' = -2 ∧ ss' = ss) ∨ (OK ∧ t9 = 10 ∧ z' = -4 ∧ ss' = ss) ∨ (OK ∧ t9 < 10 ∧ z' = nI t9 ∧ ∃ s5, ss' = upd s5 4 (nI (t9 + 1)) ∧ (∀ j, j < 1646 → s5 j = (upd (upd (upd (upd (upd (upd (upd (upd (upd (upd ss (10 * t9 + 1546) a1) (10 * t9 + 1547) a2) (10 * t9 + 1548) a3) (10 * t9 + 1549) a4) (10 * t9 + 1550) a5) (10 * t9 + 1551) a6) (10 * t9 + 1552) a7) (10 * t9 + 1553) a8) (10 * t9 + 1554) a9) (10 * t9 + 1555) 0) j) ∧ X s5 ∧ Y s5)) : rc np nf T ss' := by
  rcases hm with ⟨_, _, rfl⟩ | ⟨_, _, _, rfl⟩ | ⟨_, _, _, s5, rfl, h5, _, _⟩
  · exact h
  · exact h
  · have e : ∀ j, j < 1546 → s5 j = ss j := fun j hj => (h5 j (by omega)).trans ((pk_un (by omega)).trans ((pk_un (by omega)).trans ((pk_un (by omega)).trans ((pk_un (by omega)).trans ((pk_un (by omega)).trans ((pk_un (by omega)).trans ((pk_un (by omega)).trans ((pk_un (by omega)).trans ((pk_un (by omega)).trans ((pk_un (by omega))))))))))))
    exact rc_upd (rc_keep h (e _ (by omega)) (e _ (by omega)) (fun x q => e _ (by omega))) (by omega) (fun x q => by omega)
theorem cJ_0 {G : gW} {g : Nat → Nat} {f : Nat → va_E} {np : Nat} {dp : Nat → Int32} {nf : Nat} {df : Nat → Int32} {nr : Nat} {dr : Nat → Int32} {nt : Nat} {ct : Nat → Int32} {pay : Int32} {fine : Int32} {kf : Nat → Int32} {TL : Nat → Nat} {TG : Nat → Nat → Int32} {N1 : Nat → Nat} {E1 : Nat → Nat → Int32} {P1 : Nat → Int32} {L1 : Nat → Nat} {S1 : Nat → Nat → Int32} {N2 : Nat → Nat} {E2 : Nat → Nat → Int32} {P2 : Nat → Int32} {L2 : Nat → Nat} {S2 : Nat → Nat → Int32} (h : cJ G g f np dp nf df nr dr nt ct pay fine kf TL TG N1 E1 P1 L1 S1 N2 E2 P2 L2 S2) : f 0 = eO 9 [.ref (g 1), .ref (g 36), .ref (g 2), .ref (g 3), .ref (g 4), .ref (g 6), .ref (g 7)] := cJ_elim h (fun se hf imf mc op cm wu mk ab be mn le wt ww wb wf vv na da lf tf hx0 hctc hhs him hkp hrd hmk hfc6 hwt hw8 hw9 hw10 hw11 hvl hbk hpr hpd hfr hfd hor hod har had htr hct hla hlaa hts0 htsa hse hhf him0 him1 hmc hmn hnp hnf hnr hna hnt hlf htf hH hSp hL hT hB1 hB2 => hx0)
theorem cJ_fr {G : gW} {g : Nat → Nat} {f f' : Nat → va_E} {np : Nat} {dp : Nat → Int32} {nf : Nat} {df : Nat → Int32} {nr : Nat} {dr : Nat → Int32} {nt : Nat} {ct : Nat → Int32} {pay : Int32} {fine : Int32} {kf : Nat → Int32} {TL : Nat → Nat} {TG : Nat → Nat → Int32} {N1 : Nat → Nat} {E1 : Nat → Nat → Int32} {P1 : Nat → Int32} {L1 : Nat → Nat} {S1 : Nat → Nat → Int32} {N2 : Nat → Nat} {E2 : Nat → Nat → Int32} {P2 : Nat → Int32} {L2 : Nat → Nat} {S2 : Nat → Nat → Int32} (h : cJ G g f np dp nf df nr dr nt ct pay fine kf TL TG N1 E1 P1 L1 S1 N2 E2 P2 L2 S2) (fr : ∀ j, j < 315 → f' j = f j) : cJ G g f' np dp nf df nr dr nt ct pay fine kf TL TG N1 E1 P1 L1 S1 N2 E2 P2 L2 S2 := cJ_elim h (fun se hf imf mc op cm wu mk ab be mn le wt ww wb wf vv na da lf tf hx0 hctc hhs him hkp hrd hmk hfc6 hwt hw8 hw9 hw10 hw11 hvl hbk hpr hpd hfr hfd hor hod har had htr hct hla hlaa hts0 htsa hse hhf him0 him1 hmc hmn hnp hnf hnr hna hnt hlf htf hH hSp hL hT hB1 hB2 => ⟨se, hf, imf, mc, op, cm, wu, mk, ab, be, mn, le, wt, ww, wb, wf, vv, na, da, lf, tf, (fr _ (by decide)).trans hx0, (fr _ (by decide)).trans hctc, (fr _ (by decide)).trans hhs, (fr _ (by decide)).trans him, (fr _ (by decide)).trans hkp, (fr _ (by decide)).trans hrd, (fr _ (by decide)).trans hmk, (fr _ (by decide)).trans hfc6, (fr _ (by decide)).trans hwt, (fr _ (by decide)).trans hw8, (fr _ (by decide)).trans hw9, (fr _ (by decide)).trans hw10, (fr _ (by decide)).trans hw11, (fr _ (by decide)).trans hvl, (fr _ (by decide)).trans hbk, (fr _ (by decide)).trans hpr, (fr _ (by decide)).trans hpd, (fr _ (by decide)).trans hfr, (fr _ (by decide)).trans hfd, (fr _ (by decide)).trans hor, (fr _ (by decide)).trans hod, (fr _ (by decide)).trans har, (fr _ (by decide)).trans had, (fr _ (by decide)).trans htr, (fr _ (by decide)).trans hct, (fr _ (by decide)).trans hla, (fr _ (by decide)).trans hlaa, (fr _ (by decide)).trans hts0, (fr _ (by decide)).trans htsa, hse, hhf, him0, him1, hmc, hmn, hnp, hnf, hnr, hna, hnt, hlf, htf, (fun z hz => okH_fr (hH z hz) (fr _ (by omega)) (fr _ (by omega))), (okH_fr hSp (fr _ (by omega)) (fr _ (by omega))), (fun z hz => okT_fr (hL z hz) (fr _ (by omega)) (fr _ (by omega)) (fr _ (by omega))), (fun z hz => txt_fr (hT z hz) (fr _ (by omega)) (fr _ (by omega)) (fr _ (by omega))), (bkD_fr hB1 (fun j _ _ => fr j (by omega))), (bkD_fr hB2 (fun j _ _ => fr j (by omega)))⟩)
theorem mJ_0 {G : gW} {g : Nat → Nat} {f : Nat → va_E} {ss im kq : Nat → Int32} (h : mJ G g f ss im kq) : ∃ fs, f 315 = eO 10 fs := mJ_elim h (fun ab2 be2 sn wn sa ly rdy fd np nf nr na nt sp wi wa va bo ju dr dn sl ax lf wh w6 b6 hmo hss_ him_ hkq_ hsp_ hwi_ hwa_ hva_ hbo_ hju_ hdr_ hdn_ hsl_ hax_ hlf_ hwh_ hw6_ hb6_ hst hfo hdn hi0 hi1 => ⟨_, hmo⟩)
theorem mJ_fr {G : gW} {g : Nat → Nat} {f f' : Nat → va_E} {ss im kq : Nat → Int32} (h : mJ G g f ss im kq) (fr : ∀ j, 315 ≤ j → f' j = f j) : mJ G g f' ss im kq := mJ_elim h (fun ab2 be2 sn wn sa ly rdy fd np nf nr na nt sp wi wa va bo ju dr dn sl ax lf wh w6 b6 hmo hss_ him_ hkq_ hsp_ hwi_ hwa_ hva_ hbo_ hju_ hdr_ hdn_ hsl_ hax_ hlf_ hwh_ hw6_ hb6_ hst hfo hdn hi0 hi1 => ⟨ab2, be2, sn, wn, sa, ly, rdy, fd, np, nf, nr, na, nt, sp, wi, wa, va, bo, ju, dr, dn, sl, ax, lf, wh, w6, b6, (fr _ (by decide)).trans hmo, (fr _ (by decide)).trans hss_, (fr _ (by decide)).trans him_, (fr _ (by decide)).trans hkq_, (fr _ (by decide)).trans hsp_, (fr _ (by decide)).trans hwi_, (fr _ (by decide)).trans hwa_, (fr _ (by decide)).trans hva_, (fr _ (by decide)).trans hbo_, (fr _ (by decide)).trans hju_, (fr _ (by decide)).trans hdr_, (fr _ (by decide)).trans hdn_, (fr _ (by decide)).trans hsl_, (fr _ (by decide)).trans hax_, (fr _ (by decide)).trans hlf_, (fr _ (by decide)).trans hwh_, (fr _ (by decide)).trans hw6_, (fr _ (by decide)).trans hb6_, hst, hfo, hdn, hi0, hi1⟩)
