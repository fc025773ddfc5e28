/-! ===== the class's reader at a place, beside the reference's reader there ===== -/
/-- wu: a UNIT is wanted; us: marks ahead of a UNIT that the class still holds and the reference has emitted -/
def rdR (n : Nat) (c : Nat → Int32) (p mc : Nat) (mk : Nat → Int32) (sc : Nat) (sp : Nat → Int32) (op : Nat) (cm : Int32) (wu : Bool) : Prop :=
  ∃ (fl : Nat) (st us : List Int32) (o : List (Int32 × Int32)), rdN n c fl p op (!wu) st none = rdA n c ∧ rdM n c fl p op (!wu) st none (po 6 us o) = rdO n c ∧ 3 * (n - p) + 1 ≤ fl ∧ (wu = true → us = []) ∧ un6 us ∧ stk mk mc = (us ++ st).map cmk ∧ stk sp sc = o.map cdp ∧ vl st ∧ co st = op ∧ srt st ∧ cOK cm op false st ∧ op ≤ 8 ∧ mc + sc ≤ p
theorem rR_start {n : Nat} {c : Nat → Int32} {mk sp : Nat → Int32} : rdR n c 0 0 mk 0 sp 0 0 true :=
  ⟨3 * n + 1, [], [], [], rfl, rfl, by omega, fun _ => rfl, fun u h => (by cases h), rfl, rfl, trivial, rfl, trivial, bt_zero, by omega, by omega⟩
theorem lett_nam {x : Int32} (h : ¬ nam x = -1) : cdp (1, nam x) = -x := by
  by_cases e97 : x = 97
  · subst e97; decide
  by_cases e108 : x = 108
  · subst e108; decide
  by_cases e112 : x = 112
  · subst e112; decide
  by_cases e115 : x = 115
  · subst e115; decide
  by_cases e116 : x = 116
  · subst e116; decide
  by_cases e121 : x = 121
  · subst e121; decide
  exact absurd (show nam x = -1 by unfold nam; rw [if_neg e97, if_neg e108, if_neg e112, if_neg e115, if_neg e116, if_neg e121]) h
theorem sgn_rnk {x : Int32} (h0 : ¬ rnk x = 0) (h6 : ¬ rnk x = 6) : ¬ sgn x = -1 ∧ hol (sgn x) = rnk x ∧ cmk (sgn x) = x := by
  by_cases e33 : x = 33
  · subst e33; exact absurd (by decide) h6
  by_cases e38 : x = 38
  · subst e38; decide
  by_cases e42 : x = 42
  · subst e42; decide
  by_cases e43 : x = 43
  · subst e43; decide
  by_cases e45 : x = 45
  · subst e45; decide
  by_cases e47 : x = 47
  · subst e47; decide
  by_cases e60 : x = 60
  · subst e60; decide
  by_cases e61 : x = 61
  · subst e61; decide
  by_cases e62 : x = 62
  · subst e62; decide
  by_cases e124 : x = 124
  · subst e124; decide
  by_cases e126 : x = 126
  · subst e126; exact absurd (by decide) h6
  exact absurd (show rnk x = 0 by unfold rnk; rw [if_neg e33, if_neg e38, if_neg e42, if_neg e43, if_neg e45, if_neg e47, if_neg e60, if_neg e61, if_neg e62, if_neg e124, if_neg e126]) h0
theorem sgn_no {x : Int32} (h : rnk x = 0 ∨ rnk x = 6) : sgn x = -1 := by
  by_cases e38 : x = 38
  · subst e38; exact absurd h (by decide)
  by_cases e42 : x = 42
  · subst e42; exact absurd h (by decide)
  by_cases e43 : x = 43
  · subst e43; exact absurd h (by decide)
  by_cases e45 : x = 45
  · subst e45; exact absurd h (by decide)
  by_cases e47 : x = 47
  · subst e47; exact absurd h (by decide)
  by_cases e60 : x = 60
  · subst e60; exact absurd h (by decide)
  by_cases e61 : x = 61
  · subst e61; exact absurd h (by decide)
  by_cases e62 : x = 62
  · subst e62; exact absurd h (by decide)
  by_cases e124 : x = 124
  · subst e124; exact absurd h (by decide)
  unfold sgn; rw [if_neg e38, if_neg e42, if_neg e43, if_neg e45, if_neg e47, if_neg e60, if_neg e61, if_neg e62, if_neg e124]
theorem bt_set {cm : Int32} {op j : Nat} (h : op < 32) : bt (cm ||| ((1 : Int32) <<< (nI op &&& 31))) j = (bt cm j || (decide (j < 32) && decide (j = op))) := by
  rw [bt_or, bt_one h]
theorem bt_clr {cm : Int32} {op j : Nat} (h : op < 32) (hj : j < 32) : bt (cm &&& (((1 : Int32) <<< (nI op &&& 31)) ^^^ (-1))) j = (bt cm j && !decide (j = op)) := by
  rw [bt_and, bt_not hj, bt_one h, decide_eq_true hj, Bool.true_and]
section RR
variable {n : Nat} {c : Nat → Int32} {p mc : Nat} {mk : Nat → Int32} {sc : Nat} {sp : Nat → Int32} {op : Nat} {cm : Int32} {wu : Bool}
theorem rR_sp (h : rdR n c p mc mk sc sp op cm wu) (hp : p < n) (hc : c p = 32) : rdR n c (p + 1) mc mk sc sp op cm wu := by
  obtain ⟨fl, st, us, o, a1, a2, a3, a4, a5, a6, a7, a8, a9, b1, b2, b3, b4⟩ := h
  obtain ⟨f, rfl⟩ : ∃ z, fl = z + 1 := ⟨fl - 1, by omega⟩
  exact ⟨f, st, us, o, (rd_sp hp hc).symm.trans a1, (rm_sp hp hc).symm.trans a2, by omega, a4, a5, a6, a7, a8, a9, b1, b2, b3, by omega⟩
/-- a UNIT was emitted: (t, v); the class holds the marks ahead of it back -/
theorem rR_unit {st : List Int32} {o : List (Int32 × Int32)} {f q : Nat} {t v w : Int32} (a1 : rdN n c f q op true (pop 6 st) none = rdA n c) (a2 : rdM n c f q op true (pop 6 st) none (po 6 st ((t, v) :: o)) = rdO n c) (a3 : 3 * (n - q) + 1 ≤ f) (a6 : stk mk mc = st.map cmk) (a7 : stk sp sc = o.map cdp) (a8 : vl st) (a9 : co st = op) (b1 : srt st) (b2 : cOK cm op false st) (b3 : op ≤ 8) (hw : cdp (t, v) = w) (b4 : mc + (sc + 1) ≤ q) : rdR n c q mc mk (sc + 1) (upd sp sc w) op cm false := by
  obtain ⟨us, e1, e2, e3⟩ := split6 st
  refine ⟨f, pop 6 st, us, (t, v) :: o, a1, ?_, a3, fun z => (by cases z), e2, ?_, ?_, vl_pop _ a8, ?_, srt_pop _ b1, cOK_pop (by decide) _ _ b2, b3, b4⟩
  · rw [← e3]; exact a2
  · rw [← e1]; exact a6
  · rw [stk_p, a7, List.map_cons, hw]
  · rw [co_pop (by decide)]; exact a9
theorem rR_num {e : Nat} (h : rdR n c p mc mk sc sp op cm true) (hp : p < n) (hd : inB 48 (c p) 57 = true) (he : p ≤ e) (hen : e ≤ n) (hall : ∀ j, p ≤ j → j < e → inB 48 (c j) 57 = true) (hend : e < n → ¬ inB 48 (c e) 57 = true) (h6 : e - p ≤ 6) : rdR n c e mc mk (sc + 1) (upd sp sc (nuF c p (e - p))) op cm false := by
  obtain ⟨fl, st, us, o, a1, a2, a3, a4, a5, a6, a7, a8, a9, b1, b2, b3, b4⟩ := h
  have hus := a4 rfl
  subst hus
  have h32 : ¬ c p = 32 := fun z => by rw [z] at hd; exact absurd hd (by decide)
  have hpe : p < e := by
    rcases Nat.lt_or_ge p e with q | q
    · exact q
    · have : e = p := by omega
      subst this
      exact absurd hd (hend hp)
  obtain ⟨f, rfl⟩ : ∃ z, fl = z + 1 + (e - p) + 1 := ⟨fl - (e - p) - 2, by omega⟩
  have hrun : ∀ j, p ≤ j → j < p + (e - p) → j < n ∧ inB 48 (c j) 57 = true := fun j h1 h2 => ⟨by omega, hall j h1 (by omega)⟩
  have hstop : ¬ (e < n ∧ inB 48 (c e) 57 = true) := fun z => hend z.1 z.2
  have e1 : rdN n c (f + 1 + (e - p) + 1) p op false st none = rdN n c f e op true (pop 6 st) none := by
    rw [rd_rn hp h32 (by decide) hd, rd_run (e - p) (f + 1) h6 hrun, show p + (e - p) = e by omega, rd_dn hstop]
  have e2 : rdM n c (f + 1 + (e - p) + 1) p op false st none o = rdM n c f e op true (pop 6 st) none (po 6 st ((0, nuF c p (e - p)) :: o)) := by
    rw [rm_rn hp h32 (by decide) hd, rm_run (e - p) (f + 1) h6 hrun, show p + (e - p) = e by omega, rm_dn hstop]
  exact rR_unit (t := 0) (v := nuF c p (e - p)) (e1.symm.trans a1) (e2.symm.trans a2) (by omega) a6 a7 a8 a9 b1 b2 b3 rfl (by omega)
theorem rR_n6 {e : Nat} (h : rdR n c p mc mk sc sp op cm true) (hp : p < n) (hd : inB 48 (c p) 57 = true) (hen : e ≤ n) (hall : ∀ j, p ≤ j → j < e → inB 48 (c j) 57 = true) (h6 : ¬ e - p ≤ 6) : nI (10 * p + 2) = rdA n c := by
  obtain ⟨fl, st, us, o, a1, a2, a3, a4, a5, a6, a7, a8, a9, b1, b2, b3, b4⟩ := h
  have h32 : ¬ c p = 32 := fun z => by rw [z] at hd; exact absurd hd (by decide)
  obtain ⟨f, rfl⟩ : ∃ z, fl = z + 1 + 6 + 1 := ⟨fl - 8, by omega⟩
  rw [← a1, rd_rn hp h32 (by decide) hd, rd_run 6 (f + 1) (by omega) (fun j h1 h2 => ⟨by omega, hall j h1 (by omega)⟩), rd_d6 (by omega) (hall _ (by omega) (by omega)) (by omega)]
theorem rR_let (h : rdR n c p mc mk sc sp op cm true) (hp : p < n) (h32 : ¬ c p = 32) (hd : ¬ inB 48 (c p) 57 = true) (hn : ¬ nam (c p) = -1) : rdR n c (p + 1) mc mk (sc + 1) (upd sp sc (-(c p))) op cm false := by
  obtain ⟨fl, st, us, o, a1, a2, a3, a4, a5, a6, a7, a8, a9, b1, b2, b3, b4⟩ := h
  have hus := a4 rfl
  subst hus
  obtain ⟨f, rfl⟩ : ∃ z, fl = z + 1 := ⟨fl - 1, by omega⟩
  exact rR_unit (t := 1) (v := nam (c p)) ((rd_nm hp h32 (by decide) hd hn).symm.trans a1) ((rm_nm hp h32 (by decide) hd hn).symm.trans a2) (by omega) a6 a7 a8 a9 b1 b2 b3 (lett_nam hn) (by omega)
theorem rR_o8 (h : rdR n c p mc mk sc sp op cm true) (hp : p < n) (hc : c p = 40) (ho : 8 ≤ op) : nI (10 * p + 3) = rdA n c := by
  obtain ⟨fl, st, us, o, a1, a2, a3, a4, a5, a6, a7, a8, a9, b1, b2, b3, b4⟩ := h
  obtain ⟨f, rfl⟩ : ∃ z, fl = z + 1 := ⟨fl - 1, by omega⟩
  rw [← a1, rd_o8 hp (by rw [hc]; decide) (by decide) (by rw [hc]; decide) (by rw [hc]; decide) hc (by omega)]
theorem rR_open (h : rdR n c p mc mk sc sp op cm true) (hp : p < n) (hc : c p = 40) (ho : ¬ 8 ≤ op) : rdR n c (p + 1) (mc + 1) (upd mk mc 40) sc sp (op + 1) (cm &&& (((1 : Int32) <<< (nI (op + 1) &&& 31)) ^^^ (-1))) true := by
  obtain ⟨fl, st, us, o, a1, a2, a3, a4, a5, a6, a7, a8, a9, b1, b2, b3, b4⟩ := h
  have hus := a4 rfl
  subst hus
  obtain ⟨f, rfl⟩ : ∃ z, fl = z + 1 := ⟨fl - 1, by omega⟩
  have q1 : ¬ c p = 32 := by rw [hc]; decide
  have q2 : ¬ inB 48 (c p) 57 = true := by rw [hc]; decide
  have q3 : nam (c p) = -1 := by rw [hc]; decide
  refine ⟨f, 13 :: st, [], o, (rd_op hp q1 (by decide) q2 q3 hc (by omega)).symm.trans a1, (rm_op hp q1 (by decide) q2 q3 hc (by omega)).symm.trans a2, by omega, fun _ => rfl, a5, ?_, a7, ⟨Or.inl rfl, a8⟩, by rw [co_13, a9], ⟨fun y l' _ => Or.inr (Or.inl rfl), b1⟩, ?_, by omega, by omega⟩
  · rw [stk_p, a6]; rfl
  · rw [cOK_13]
    refine ⟨by rw [bt_clr (by omega) (by omega), decide_eq_true rfl, Bool.not_true, Bool.and_false], ?_⟩
    rw [Nat.add_sub_cancel]
    refine cOK_congr _ _ _ (fun j hj => ?_) b2
    rw [bt_clr (by omega) (by omega), decide_eq_false (by omega), Bool.not_false, Bool.and_true]
theorem rR_un {x y : Int32} (h : rdR n c p mc mk sc sp op cm true) (hp : p < n) (hxy : (c p = 33 ∧ x = 2 ∧ y = 33) ∨ (c p = 45 ∧ x = 3 ∧ y = 126)) : rdR n c (p + 1) (mc + 1) (upd mk mc y) sc sp op cm true := by
  obtain ⟨fl, st, us, o, a1, a2, a3, a4, a5, a6, a7, a8, a9, b1, b2, b3, b4⟩ := h
  have hus := a4 rfl
  subst hus
  obtain ⟨f, rfl⟩ : ∃ z, fl = z + 1 := ⟨fl - 1, by omega⟩
  have hy : cmk x = y := by
    rcases hxy with ⟨_, h1, h2⟩ | ⟨_, h1, h2⟩ <;> rw [h1, h2] <;> decide
  have hu : x = 2 ∨ x = 3 := hxy.elim (fun z => Or.inl z.2.1) (fun z => Or.inr z.2.1)
  have h13 : ¬ x = 13 := by
    rcases hu with z | z <;> rw [z] <;> decide
  have h6 := hol_u hu
  have hN : rdN n c (f + 1) p op false st none = rdN n c f (p + 1) op false (x :: st) none ∧ rdM n c (f + 1) p op false st none o = rdM n c f (p + 1) op false (x :: st) none o := by
    rcases hxy with ⟨h1, h2, _⟩ | ⟨h1, h2, _⟩
    · rw [h2]
      exact ⟨rd_no hp (by rw [h1]; decide) (by decide) (by rw [h1]; decide) (by rw [h1]; decide) (by rw [h1]; decide) (by rw [h1]; decide) h1, rm_no hp (by rw [h1]; decide) (by decide) (by rw [h1]; decide) (by rw [h1]; decide) (by rw [h1]; decide) (by rw [h1]; decide) h1⟩
    · rw [h2]
      exact ⟨rd_mi hp (by rw [h1]; decide) (by decide) (by rw [h1]; decide) (by rw [h1]; decide) (by rw [h1]; decide) h1, rm_mi hp (by rw [h1]; decide) (by decide) (by rw [h1]; decide) (by rw [h1]; decide) (by rw [h1]; decide) h1⟩
  refine ⟨f, x :: st, [], o, hN.1.symm.trans a1, hN.2.symm.trans a2, by omega, fun _ => rfl, a5, ?_, a7, ⟨Or.inr (by rw [h6]; decide), a8⟩, by rw [co_u h13, a9], ⟨fun y l' _ => Or.inr (Or.inr (Or.inr h6)), b1⟩, ?_, b3, by omega⟩
  · rw [stk_p, a6]
    show y :: st.map cmk = cmk x :: st.map cmk
    rw [hy]
  · rw [cOK_n3 h13 (by rw [h6]; decide)]; exact b2
theorem rR_b2 (h : rdR n c p mc mk sc sp op cm true) (hp : p < n) (h32 : ¬ c p = 32) (hd : ¬ inB 48 (c p) 57 = true) (hn : nam (c p) = -1) (h40 : ¬ c p = 40) (h45 : ¬ c p = 45) (h33 : ¬ c p = 33) : nI (10 * p + 1) = rdA n c := by
  obtain ⟨fl, st, us, o, a1, a2, a3, a4, a5, a6, a7, a8, a9, b1, b2, b3, b4⟩ := h
  obtain ⟨f, rfl⟩ : ∃ z, fl = z + 1 := ⟨fl - 1, by omega⟩
  rw [← a1, rd_b2 hp h32 (by decide) hd hn h40 h45 h33]
/-- what the class's release does to its marks and steps -/
theorem rR_rel {st us : List Int32} {o : List (Int32 × Int32)} {r : Int32} {mc1 sc1 : Nat} {sp1 : Nat → Int32} (hr : 1 ≤ r) (hr6 : r ≤ 6) (a5 : un6 us) (a6 : stk mk mc = (us ++ st).map cmk) (a7 : stk sp sc = o.map cdp) (a8 : vl st) (h1 : stk mk mc1 = popC r (stk mk mc)) (h2 : stk sp1 sc1 = poC r (stk mk mc) (stk sp sc)) : stk mk mc1 = (pop r st).map cmk ∧ stk sp1 sc1 = (po r st (po 6 us o)).map cdp := by
  have hv := vl_us a8 us a5
  constructor
  · rw [h1, a6, popC_map _ hv, pop_us hr6 us a5]
  · rw [h2, a6, a7, poC_map hr _ _ hv, po_us hr6 us o a5]
theorem rR_cl {mc1 sc1 : Nat} {sp1 : Nat → Int32} (h : rdR n c p mc mk sc sp op cm false) (hp : p < n) (hc : c p = 41) (ho : 0 < op) (h1 : stk mk mc1 = popC 1 (stk mk mc)) (h2 : stk sp1 sc1 = poC 1 (stk mk mc) (stk sp sc)) (h3 : mc1 + sc1 = mc + sc) : 0 < mc1 ∧ rdR n c (p + 1) (mc1 - 1) mk sc1 sp1 (op - 1) cm false := by
  obtain ⟨fl, st, us, o, a1, a2, a3, a4, a5, a6, a7, a8, a9, b1, b2, b3, b4⟩ := h
  obtain ⟨f, rfl⟩ : ∃ z, fl = z + 1 := ⟨fl - 1, by omega⟩
  obtain ⟨m1, m2⟩ := rR_rel (by decide) (by decide) a5 a6 a7 a8 h1 h2
  have q1 : ¬ c p = 32 := by rw [hc]; decide
  obtain ⟨l', hl⟩ := pop1_o st a8 (by omega)
  have hw : 0 < mc1 := by
    rcases Nat.eq_zero_or_pos mc1 with h9 | h9
    · rw [h9, hl] at m1; cases m1
    · exact h9
  rw [hl, stk_t hw] at m1
  have m3 := (List.cons.inj m1).2
  have hv : vl (13 :: l') := by rw [← hl]; exact vl_pop _ a8
  have hs : srt (13 :: l') := by rw [← hl]; exact srt_pop _ b1
  have hco : co (13 :: l') = op := by rw [← hl, co_pop (by decide)]; exact a9
  rw [co_13] at hco
  have hcm : cOK cm (op - 1) false l' := by
    have aux : ∀ (l : List Int32) (b : Bool) (l' : List Int32), vl l → cOK cm op b l → pop 1 l = 13 :: l' → cOK cm (op - 1) false l' := by
      intro l
      induction l with
      | nil => intro b l' _ _ e; cases e
      | cons x l ih =>
        intro b l' hv hc e
        have e : (if 1 ≤ hol x then pop 1 l else x :: l) = 13 :: l' := e
        by_cases hx : (1 : Int32) ≤ hol x
        · rw [if_pos hx] at e
          rw [cOK_x (hol_1 (Int32.le_refl 1) hx).2.2] at hc
          exact ih _ l' hv.2 hc e
        · rw [if_neg hx] at e
          cases e
          exact (cOK_13.mp hc).2
    exact aux st false l' a8 b2 hl
  obtain ⟨us', e1, e2, e3⟩ := split6 l'
  refine ⟨hw, f, pop 6 l', us', po 1 st (po 6 us o), ?_, ?_, by omega, fun z => (by cases z), e2, ?_, m2, vl_pop _ hv.2, ?_, srt_pop _ hs.2, cOK_pop (by decide) _ _ hcm, by omega, by omega⟩
  · have := (rd_cl (st := st) (fl := f) (wh := true) hp q1 rfl hc ho).symm.trans a1
    rw [hl] at this; exact this
  · have := (rm_cl (st := st) (fl := f) (wh := true) (o := po 6 us o) hp q1 rfl hc ho).symm.trans a2
    rw [hl] at this
    rw [← e3]; exact this
  · rw [← e1]; exact m3
  · rw [co_pop (by decide)]; omega
theorem rR_c0 (h : rdR n c p mc mk sc sp op cm false) (hp : p < n) (hc : c p = 41) (ho : op = 0) : nI (10 * p + 1) = rdA n c := by
  obtain ⟨fl, st, us, o, a1, a2, a3, a4, a5, a6, a7, a8, a9, b1, b2, b3, b4⟩ := h
  obtain ⟨f, rfl⟩ : ∃ z, fl = z + 1 := ⟨fl - 1, by omega⟩
  rw [← a1]
  exact (rd_b1 (wh := true) hp (by rw [hc]; decide) rfl (fun z => by omega) (by rw [hc]; decide)).symm
theorem rR_ob (h : rdR n c p mc mk sc sp op cm false) (hp : p < n) (h32 : ¬ c p = 32) (h41 : ¬ c p = 41) (hb : rnk (c p) = 0 ∨ rnk (c p) = 6 ∨ (rnk (c p) = 3 ∧ bt cm op = true)) : nI (10 * p + 1) = rdA n c := by
  obtain ⟨fl, st, us, o, a1, a2, a3, a4, a5, a6, a7, a8, a9, b1, b2, b3, b4⟩ := h
  obtain ⟨f, rfl⟩ : ∃ z, fl = z + 1 := ⟨fl - 1, by omega⟩
  rw [← a1]
  rcases hb with hb | hb | ⟨hb, hc⟩
  · exact (rd_b1 (wh := true) hp h32 rfl (fun z => h41 z.1) (sgn_no (Or.inl hb))).symm
  · exact (rd_b1 (wh := true) hp h32 rfl (fun z => h41 z.1) (sgn_no (Or.inr hb))).symm
  · obtain ⟨s1, s2, s3⟩ := sgn_rnk (x := c p) (by rw [hb]; decide) (by rw [hb]; decide)
    refine (rd_g0 (wh := true) hp h32 rfl (fun z => h41 z.1) s1 ?_).symm
    unfold gOn
    rw [if_pos (s2.trans hb), if_pos ((cOK_again a8 b1 b2).symm.trans hc)]
theorem rR_op {mc1 sc1 : Nat} {sp1 : Nat → Int32} {cm' : Int32} (h : rdR n c p mc mk sc sp op cm false) (hp : p < n) (h32 : ¬ c p = 32) (h41 : ¬ c p = 41) (h0 : ¬ rnk (c p) = 0) (h6 : ¬ rnk (c p) = 6) (h3 : ¬ (rnk (c p) = 3 ∧ bt cm op = true))
    (h1 : stk mk mc1 = popC (rnk (c p)) (stk mk mc)) (h2 : stk sp1 sc1 = poC (rnk (c p)) (stk mk mc) (stk sp sc)) (hs : mc1 + sc1 = mc + sc)
    (hcm : (rnk (c p) = 3 ∧ cm' = cm ||| ((1 : Int32) <<< (nI op &&& 31))) ∨ (rnk (c p) < 3 ∧ cm' = cm &&& (((1 : Int32) <<< (nI op &&& 31)) ^^^ (-1))) ∨ (¬ rnk (c p) = 3 ∧ ¬ rnk (c p) < 3 ∧ cm' = cm)) : rdR n c (p + 1) (mc1 + 1) (upd mk mc1 (c p)) sc1 sp1 op cm' true := by
  obtain ⟨fl, st, us, o, a1, a2, a3, a4, a5, a6, a7, a8, a9, b1, b2, b3, b4⟩ := h
  obtain ⟨f, rfl⟩ : ∃ z, fl = z + 1 := ⟨fl - 1, by omega⟩
  obtain ⟨s1, s2, s3⟩ := sgn_rnk h0 h6
  obtain ⟨k1, k2, k3, k4, k5⟩ := sgn_ok s1
  rw [s2] at k1 k2
  have hr6 : rnk (c p) ≤ 6 := Int32.le_trans k2 (by decide)
  obtain ⟨m1, m2⟩ := rR_rel k1 hr6 a5 a6 a7 a8 h1 h2
  have hg : gOn (sgn (c p)) st = some (sgn (c p) :: pop (rnk (c p)) st) := by
    unfold gOn
    by_cases e3 : hol (sgn (c p)) = 3
    · have e4 : rnk (c p) = 3 := s2.symm.trans e3
      rw [if_pos e3, if_neg (fun z => h3 ⟨e4, (cOK_again a8 b1 b2).trans z⟩), pop_34, e4]
    · rw [if_neg e3, s2]
  have q41 : ¬ (c p = 41 ∧ 0 < op) := fun z => h41 z.1
  refine ⟨f, sgn (c p) :: pop (rnk (c p)) st, [], po (rnk (c p)) st (po 6 us o), (rd_g1 (wh := true) hp h32 rfl q41 s1 hg).symm.trans a1, ?_, by omega, fun _ => rfl, fun u hu => (by cases hu), ?_, m2, ⟨Or.inr (by rw [s2]; exact k1), vl_pop _ a8⟩, ?_, ?_, ?_, b3, by omega⟩
  · have := (rm_g1 (wh := true) (o := po 6 us o) hp h32 rfl q41 s1 hg).symm.trans a2
    rw [s2] at this; exact this
  · rw [stk_p, m1]
    show c p :: (pop (rnk (c p)) st).map cmk = cmk (sgn (c p)) :: (pop (rnk (c p)) st).map cmk
    rw [s3]
  · rw [co_u k3, co_pop k1]; exact a9
  · rw [← s2]; exact srt_push b1
  · have hco : co st ≤ op := by omega
    rcases hcm with ⟨e3, ec⟩ | ⟨e3, ec⟩ | ⟨e3, e4, ec⟩
    · rw [cOK_x k3, decide_eq_true (s2.trans e3), Bool.or_true]
      refine cOK_set k1 st op false ?_ (fun j hj => ?_) hco b2
      · rw [ec, bt_set (by omega), decide_eq_true (show op < 32 by omega), decide_eq_true rfl, Bool.and_true, Bool.or_true]
      · rw [ec, bt_set (by omega), decide_eq_false (show ¬ j = op by omega), Bool.and_false, Bool.or_false]
    · rw [cOK_n3 k3 (fun z => by rw [← s2, z] at e3; exact absurd e3 (by decide))]
      refine cOK_clr k1 e3 st op false b1 ?_ (fun j hj => ?_) hco b2
      · rw [ec, bt_clr (by omega) (by omega), decide_eq_true rfl, Bool.not_true, Bool.and_false]
      · rw [ec, bt_clr (by omega) (by omega), decide_eq_false (show ¬ j = op by omega), Bool.not_false, Bool.and_true]
    · rw [cOK_n3 k3 (fun z => e3 (s2.symm.trans z)), ec]
      refine cOK_pop ?_ _ _ b2
      have t1 : ¬ (rnk (c p)).toInt < (3 : Int32).toInt := fun z => e4 (Int32.lt_iff_toInt_lt.mpr z)
      have t2 : ¬ (rnk (c p)).toInt = (3 : Int32).toInt := fun z => e3 (Int32.toInt_inj.mp z)
      have t3 : (4 : Int32).toInt = 4 := by decide
      have t4 : (3 : Int32).toInt = 3 := by decide
      exact Int32.le_iff_toInt_le.mpr (by omega)
theorem rR_e0 (h : rdR n c p mc mk sc sp op cm wu) (hp : ¬ p < n) (hw : wu = true ∨ 0 < op) : nI (10 * n + 1) = rdA n c := by
  obtain ⟨fl, st, us, o, a1, a2, a3, a4, a5, a6, a7, a8, a9, b1, b2, b3, b4⟩ := h
  obtain ⟨f, rfl⟩ : ∃ z, fl = z + 1 := ⟨fl - 1, by omega⟩
  rw [← a1, rd_e0 hp]
  rintro ⟨z1, z2⟩
  rcases hw with q | q
  · rw [q] at z1; cases z1
  · omega
theorem rR_e1 {mc1 sc1 : Nat} {sp1 : Nat → Int32} (h : rdR n c p mc mk sc sp op cm false) (hp : ¬ p < n) (ho : op = 0) (h1 : stk mk mc1 = popC 1 (stk mk mc)) (h2 : stk sp1 sc1 = poC 1 (stk mk mc) (stk sp sc)) : -1 = rdA n c ∧ stk sp1 sc1 = (rdO n c).map cdp := by
  obtain ⟨fl, st, us, o, a1, a2, a3, a4, a5, a6, a7, a8, a9, b1, b2, b3, b4⟩ := h
  obtain ⟨f, rfl⟩ : ∃ z, fl = z + 1 := ⟨fl - 1, by omega⟩
  obtain ⟨m1, m2⟩ := rR_rel (by decide) (by decide) a5 a6 a7 a8 h1 h2
  exact ⟨(rd_e1 hp rfl ho).symm.trans a1, by rw [m2, ← a2, rm_e hp]⟩
end RR

