/-! ===== what a text tells: its steps worked out on a stack (the last step first in the list) ===== -/
def two (h : Int32) (a b : Int64) : Int64 :=
  if h = 4 then a * b else if h = 5 then (if b = 0 then 0 else a / b) else if h = 6 then a + b else if h = 7 then a - b
  else if h = 8 then (if a < b then 1 else 0) else if h = 9 then (if b < a then 1 else 0) else if h = 10 then (if a = b then 1 else 0)
  else if h = 11 then (if ¬ a = 0 ∧ ¬ b = 0 then 1 else 0) else (if ¬ a = 0 ∨ ¬ b = 0 then 1 else 0)
def stU (f : Int64 → Int64) : List Int64 → List Int64
  | [] => []
  | a :: l => f a :: l
def stB (f : Int64 → Int64 → Int64) : List Int64 → List Int64
  | b :: a :: l => f a b :: l
  | l => l
def stE (nv : Int32 → Int64) (x : Int32 × Int32) (l : List Int64) : List Int64 :=
  if x.1 = 0 then x.2.toInt64 :: l else if x.1 = 1 then nv x.2 :: l
  else if x.1 = 3 then stU (fun a => -a) l else if x.1 = 2 then stU (fun a => if a = 0 then 1 else 0) l
  else stB (two x.1) l
def ev (nv : Int32 → Int64) : List (Int32 × Int32) → List Int64
  | [] => []
  | x :: l => stE nv x (ev nv l)
/-- how many values stand on the stack -/
def dpl : List (Int32 × Int32) → Option Nat
  | [] => some 0
  | x :: l => match dpl l with
    | none => none
    | some d => if x.1 = 0 ∨ x.1 = 1 then some (d + 1) else if x.1 = 2 ∨ x.1 = 3 then (if d = 0 then none else some d) else if d < 2 then none else some (d - 1)
def okX (x : Int32 × Int32) : Prop := (x.1 = 0 ∧ ∃ v, v < 1000000 ∧ x.2 = nI v) ∨ (x.1 = 1 ∧ ∃ v, v < 6 ∧ x.2 = nI v) ∨ 1 ≤ hol x.1
def okO (l : List (Int32 × Int32)) : Prop := ∀ x, x ∈ l → okX x
theorem dpl_s {x : Int32 × Int32} {l : List (Int32 × Int32)} {d : Nat} (h : dpl l = some d) : dpl (x :: l) = if x.1 = 0 ∨ x.1 = 1 then some (d + 1) else if x.1 = 2 ∨ x.1 = 3 then (if d = 0 then none else some d) else if d < 2 then none else some (d - 1) := by
  show (match dpl l with | none => none | some d => _) = _
  rw [h]
theorem dpl_tail {x : Int32 × Int32} {l : List (Int32 × Int32)} {d : Nat} (h : dpl (x :: l) = some d) : ∃ e, dpl l = some e := by
  cases h9 : dpl l with
  | none =>
    have h : (match dpl l with | none => none | some d => _) = some d := h
    rw [h9] at h; cases h
  | some e => exact ⟨e, rfl⟩
theorem dpl_suf : ∀ (p l : List (Int32 × Int32)) (d : Nat), dpl (p ++ l) = some d → ∃ e, dpl l = some e := by
  intro p
  induction p with
  | nil => intro l d h; exact ⟨d, h⟩
  | cons x p ih =>
    intro l d h
    obtain ⟨e, he⟩ := dpl_tail (l := p ++ l) h
    exact ih l e he
theorem dpl_v {x : Int32 × Int32} {l : List (Int32 × Int32)} {d : Nat} (h : dpl l = some d) (hx : x.1 = 0 ∨ x.1 = 1) : dpl (x :: l) = some (d + 1) := by
  rw [dpl_s h, if_pos hx]
theorem dpl_u {x : Int32 × Int32} {l : List (Int32 × Int32)} {d e : Nat} (h : dpl l = some d) (he : dpl (x :: l) = some e) (hx : x.1 = 2 ∨ x.1 = 3) : 1 ≤ d ∧ e = d := by
  have h0 : ¬ (x.1 = 0 ∨ x.1 = 1) := by
    rcases hx with z | z <;> rw [z] <;> decide
  rw [dpl_s h, if_neg h0, if_pos hx] at he
  by_cases hd : d = 0
  · rw [if_pos hd] at he; cases he
  · rw [if_neg hd] at he; cases he; omega
theorem dpl_b {x : Int32 × Int32} {l : List (Int32 × Int32)} {d e : Nat} (h : dpl l = some d) (he : dpl (x :: l) = some e) (h0 : ¬ x.1 = 0) (h1 : ¬ x.1 = 1) (h2 : ¬ x.1 = 2) (h3 : ¬ x.1 = 3) : 2 ≤ d ∧ e = d - 1 := by
  rw [dpl_s h, if_neg (fun z => z.elim h0 h1), if_neg (fun z => z.elim h2 h3)] at he
  by_cases hd : d < 2
  · rw [if_pos hd] at he; cases he
  · rw [if_neg hd] at he; cases he; omega
theorem dpl_le : ∀ (l : List (Int32 × Int32)) (d : Nat), dpl l = some d → d ≤ l.length := by
  intro l
  induction l with
  | nil => intro d h; cases h; exact Nat.le_refl _
  | cons x l ih =>
    intro d h
    obtain ⟨e, he⟩ := dpl_tail h
    have h1 := ih e he
    rw [dpl_s he] at h
    show d ≤ l.length + 1
    split at h
    · cases h; omega
    · split at h
      · split at h
        · cases h
        · cases h; omega
      · split at h
        · cases h
        · cases h; omega
theorem ev_len {nv : Int32 → Int64} : ∀ (l : List (Int32 × Int32)) (d : Nat), dpl l = some d → (ev nv l).length = d := by
  intro l
  induction l with
  | nil => intro d h; cases h; rfl
  | cons x l ih =>
    intro d h
    obtain ⟨e, he⟩ := dpl_tail h
    have h1 := ih e he
    show (stE nv x (ev nv l)).length = d
    unfold stE
    by_cases h0 : x.1 = 0
    · rw [if_pos h0, List.length_cons, h1]
      rw [dpl_v he (Or.inl h0)] at h; cases h; rfl
    · rw [if_neg h0]
      by_cases h2 : x.1 = 1
      · rw [if_pos h2, List.length_cons, h1]
        rw [dpl_v he (Or.inr h2)] at h; cases h; rfl
      · rw [if_neg h2]
        have hu : ∀ f, (stU f (ev nv l)).length = (ev nv l).length := by
          intro f
          cases ev nv l <;> rfl
        by_cases h3 : x.1 = 3
        · rw [if_pos h3, hu, h1, (dpl_u he h (Or.inr h3)).2]
        · rw [if_neg h3]
          by_cases h4 : x.1 = 2
          · rw [if_pos h4, hu, h1, (dpl_u he h (Or.inl h4)).2]
          · rw [if_neg h4]
            obtain ⟨q1, q2⟩ := dpl_b he h h0 h2 h4 h3
            rw [q2]
            cases hl : ev nv l with
            | nil => rw [hl] at h1; simp at h1; omega
            | cons b k =>
              cases k with
              | nil => rw [hl] at h1; simp at h1; omega
              | cons a k =>
                rw [hl] at h1
                show (two x.1 a b :: k).length = e - 1
                simp at h1 ⊢; omega
/-! what is emitted is such a row of steps -/
theorem okO_cons {x : Int32 × Int32} {l : List (Int32 × Int32)} (hx : okX x) (h : okO l) : okO (x :: l) := by
  intro y hy
  rcases List.mem_cons.mp hy with e | e
  · rw [e]; exact hx
  · exact h y e
theorem okO_po {r : Int32} (hr : 1 ≤ r) : ∀ (st : List Int32) (o : List (Int32 × Int32)), okO o → okO (po r st o) := by
  intro st
  induction st with
  | nil => intro o h; exact h
  | cons x l ih =>
    intro o h
    show okO (if r ≤ hol x then po r l ((x, 0) :: o) else o)
    by_cases hp : r ≤ hol x
    · rw [if_pos hp]
      exact ih _ (okO_cons (Or.inr (Or.inr (Int32.le_trans hr hp))) h)
    · rw [if_neg hp]; exact h
theorem dpl_po {r : Int32} (hr : 1 ≤ r) : ∀ (st : List Int32) (o : List (Int32 × Int32)), dpl o = some (nb st + 1) → dpl (po r st o) = some (nb (pop r st) + 1) := by
  intro st
  induction st with
  | nil => intro o h; exact h
  | cons x l ih =>
    intro o h
    show dpl (if r ≤ hol x then po r l ((x, 0) :: o) else o) = some (nb (if r ≤ hol x then pop r l else x :: l) + 1)
    by_cases hp : r ≤ hol x
    · rw [if_pos hp, if_pos hp]
      have h0 := hol_1 hr hp
      refine ih _ ?_
      rw [dpl_s h]
      show (if x = 0 ∨ x = 1 then _ else if x = 2 ∨ x = 3 then (if (if x = 2 ∨ x = 3 ∨ x = 13 then 0 else 1) + nb l + 1 = 0 then none else some ((if x = 2 ∨ x = 3 ∨ x = 13 then 0 else 1) + nb l + 1)) else if (if x = 2 ∨ x = 3 ∨ x = 13 then 0 else 1) + nb l + 1 < 2 then none else some ((if x = 2 ∨ x = 3 ∨ x = 13 then 0 else 1) + nb l + 1 - 1)) = _
      rw [if_neg (fun z => z.elim h0.1 h0.2.1)]
      by_cases h2 : x = 2 ∨ x = 3
      · have e5 : (if x = 2 ∨ x = 3 ∨ x = 13 then 0 else 1) = 0 := if_pos (h2.elim Or.inl (fun z => Or.inr (Or.inl z)))
        rw [if_pos h2, e5, if_neg (by omega), Nat.zero_add]
      · have e5 : (if x = 2 ∨ x = 3 ∨ x = 13 then 0 else 1) = 1 := if_neg (fun z => z.elim (fun q => h2 (Or.inl q)) (fun q => q.elim (fun w => h2 (Or.inr w)) h0.2.2))
        rw [if_neg h2, e5, if_neg (by omega)]
        congr 1
        omega
    · rw [if_neg hp, if_neg hp]; exact h
theorem nuF_v {c : Nat → Int32} {b : Nat} : ∀ k, k ≤ 6 → (∀ j, b ≤ j → j < b + k → inB 48 (c j) 57 = true) → ∃ v, v < 10 ^ k ∧ nuF c b k = nI v := by
  intro k
  induction k with
  | zero => intro _ _; exact ⟨0, by decide, rfl⟩
  | succ k ih =>
    intro hk h
    obtain ⟨v, hv, e⟩ := ih (by omega) (fun j h1 h2 => h j h1 (by omega))
    obtain ⟨d1, d2⟩ := of_decide_eq_true (h (b + k) (by omega) (by omega))
    have d1 : (48 : Int) ≤ (c (b + k)).toInt := Int32.le_iff_toInt_le.mp d1
    have d2 : (c (b + k)).toInt ≤ 57 := Int32.le_iff_toInt_le.mp d2
    obtain ⟨e9, he9, ec⟩ : ∃ e9, e9 ≤ 9 ∧ c (b + k) = nI (48 + e9) := by
      refine ⟨((c (b + k)).toInt - 48).toNat, by omega, Int32.toInt_inj.mp ?_⟩
      rw [nI_toInt (by omega)]
      omega
    have hp : 10 ^ k ≤ 10 ^ 5 := Nat.pow_le_pow_right (by decide) (by omega)
    refine ⟨10 * v + e9, by rw [Nat.pow_succ]; omega, ?_⟩
    show 10 * nuF c b k + c (b + k) - 48 = _
    rw [e, ec, show (10 : Int32) = nI 10 from rfl, pk_mul, nI_add, show (48 : Int32) = nI 48 from rfl, pk_sub (by omega)]
    congr 1
    omega
theorem nam_ok {x : Int32} (h : ¬ nam x = -1) : ∃ v, v < 6 ∧ nam x = nI v := by
  by_cases e97 : x = 97
  · subst e97; exact ⟨0, by decide, by decide⟩
  by_cases e108 : x = 108
  · subst e108; exact ⟨1, by decide, by decide⟩
  by_cases e112 : x = 112
  · subst e112; exact ⟨3, by decide, by decide⟩
  by_cases e115 : x = 115
  · subst e115; exact ⟨4, by decide, by decide⟩
  by_cases e116 : x = 116
  · subst e116; exact ⟨2, by decide, by decide⟩
  by_cases e121 : x = 121
  · subst e121; exact ⟨5, by decide, by decide⟩
  exact absurd (show nam x = -1 by unfold nam; rw [if_neg e97, if_neg e108, if_neg e112, if_neg e115, if_neg e116, if_neg e121]) h
theorem rd_good {n : Nat} {c : Nat → Int32} : ∀ (fl i op : Nat) (wh : Bool) (st : List Int32) (r : Option Nat) (o : List (Int32 × Int32)), n ≤ 50 → co st = op → vl st → okO o →
    (match r with
      | none => dpl o = some (nb st + (if wh = true then 1 else 0))
      | some b => dpl o = some (nb st) ∧ b ≤ i ∧ i - b ≤ 6 ∧ ∀ j, b ≤ j → j < i → inB 48 (c j) 57 = true) →
    rdN n c fl i op wh st r = -1 → dpl (rdM n c fl i op wh st r o) = some 1 ∧ okO (rdM n c fl i op wh st r o) := by
  intro fl
  induction fl with
  | zero =>
    intro i op wh st r o _ _ _ _ _ h
    cases r with
    | none => exact absurd h (by show ¬ (0 : Int32) = -1; decide)
    | some b => exact absurd h (by show ¬ (0 : Int32) = -1; decide)
  | succ fl ih =>
    intro i op wh st r o hn hco hvl ho hr h
    cases r with
    | none =>
      have hr : dpl o = some (nb st + (if wh = true then 1 else 0)) := hr
      by_cases hi : i < n
      · by_cases h32 : c i = 32
        · rw [rd_sp hi h32] at h
          rw [rm_sp hi h32]
          exact ih _ _ _ _ none _ hn hco hvl ho hr h
        · by_cases hw : wh = true
          · rw [if_pos hw] at hr
            by_cases h41 : c i = 41 ∧ 0 < op
            · rw [rd_cl hi h32 hw h41.1 h41.2] at h
              rw [rm_cl hi h32 hw h41.1 h41.2]
              obtain ⟨l', hl⟩ := pop1_o st hvl (by omega)
              have c1 : co (13 :: l') = op := by rw [← hl, co_pop (by decide)]; exact hco
              have v1 : vl (13 :: l') := by rw [← hl]; exact vl_pop _ hvl
              have d1 := dpl_po (r := 1) (by decide) st o hr
              rw [hl] at h d1 ⊢
              rw [co_13] at c1
              rw [nb_u (Or.inr (Or.inr rfl))] at d1
              have d2 := dpl_po (r := 6) (by decide) l' _ d1
              exact ih _ _ _ _ none _ hn (by rw [show (13 :: l').tail = l' from rfl, co_pop (by decide)]; omega) (vl_pop _ v1.2) (okO_po (by decide) _ _ (okO_po (by decide) _ _ ho)) (by show _ = some (nb (pop 6 l') + (if wh = true then 1 else 0)); rw [if_pos hw]; exact d2) h
            · by_cases hs : sgn (c i) = -1
              · rw [rd_b1 hi h32 hw h41 hs] at h; exact absurd h (nI_m1 (by omega))
              · cases hg : gOn (sgn (c i)) st with
                | none => rw [rd_g0 hi h32 hw h41 hs hg] at h; exact absurd h (nI_m1 (by omega))
                | some st' =>
                  obtain ⟨k1, k2, k3, k4, k5⟩ := sgn_ok hs
                  rw [rd_g1 hi h32 hw h41 hs hg] at h
                  rw [rm_g1 hi h32 hw h41 hs hg]
                  have hst : st' = sgn (c i) :: pop (hol (sgn (c i))) st := by
                    unfold gOn at hg
                    by_cases h3 : hol (sgn (c i)) = 3
                    · rw [if_pos h3] at hg
                      split at hg
                      · cases hg
                      · cases hg; rw [pop_34, h3]
                    · rw [if_neg h3] at hg; cases hg; rfl
                  have d1 := dpl_po k1 st o hr
                  refine ih _ _ _ _ none _ hn ((gOn_co k1 k3 hg).trans hco) (gOn_vl k1 hvl hg) (okO_po k1 _ _ ho) ?_ h
                  show _ = some (nb st' + (if false = true then 1 else 0))
                  rw [hst, nb_b k3 k4 k5, if_neg (by decide)]; exact d1
          · rw [if_neg hw] at hr
            have hwf : wh = false := eq_false_of_ne_true hw
            by_cases hd : inB 48 (c i) 57 = true
            · rw [rd_rn hi h32 hw hd] at h
              rw [rm_rn hi h32 hw hd]
              exact ih _ _ _ _ (some i) _ hn hco hvl ho ⟨hr, Nat.le_refl _, by omega, fun j h1 h2 => absurd h1 (by omega)⟩ h
            · by_cases hnm : nam (c i) = -1
              · by_cases h40 : c i = 40
                · by_cases h8 : op = 8
                  · rw [rd_o8 hi h32 hw hd hnm h40 h8] at h; exact absurd h (nI_m1 (by omega))
                  · rw [rd_op hi h32 hw hd hnm h40 h8] at h
                    rw [rm_op hi h32 hw hd hnm h40 h8]
                    exact ih _ _ _ _ none _ hn (by rw [co_13, hco]) ⟨Or.inl rfl, hvl⟩ ho (by show _ = some (nb (13 :: st) + (if wh = true then 1 else 0)); rw [nb_u (Or.inr (Or.inr rfl)), if_neg hw]; exact hr) h
                · by_cases h45 : c i = 45
                  · rw [rd_mi hi h32 hw hd hnm h40 h45] at h
                    rw [rm_mi hi h32 hw hd hnm h40 h45]
                    exact ih _ _ _ _ none _ hn (by rw [co_u (by decide), hco]) ⟨Or.inr (by decide), hvl⟩ ho (by show _ = some (nb (3 :: st) + (if wh = true then 1 else 0)); rw [nb_u (Or.inr (Or.inl rfl)), if_neg hw]; exact hr) h
                  · by_cases h33 : c i = 33
                    · rw [rd_no hi h32 hw hd hnm h40 h45 h33] at h
                      rw [rm_no hi h32 hw hd hnm h40 h45 h33]
                      exact ih _ _ _ _ none _ hn (by rw [co_u (by decide), hco]) ⟨Or.inr (by decide), hvl⟩ ho (by show _ = some (nb (2 :: st) + (if wh = true then 1 else 0)); rw [nb_u (Or.inl rfl), if_neg hw]; exact hr) h
                    · rw [rd_b2 hi h32 hw hd hnm h40 h45 h33] at h; exact absurd h (nI_m1 (by omega))
              · rw [rd_nm hi h32 hw hd hnm] at h
                rw [rm_nm hi h32 hw hd hnm]
                have d1 := dpl_po (r := 6) (by decide) st ((1, nam (c i)) :: o) (dpl_v hr (Or.inr rfl))
                exact ih _ _ _ _ none _ hn (by rw [co_pop (by decide)]; exact hco) (vl_pop _ hvl) (okO_po (by decide) _ _ (okO_cons (Or.inr (Or.inl ⟨rfl, nam_ok hnm⟩)) ho)) (by show _ = some (nb (pop 6 st) + (if true = true then 1 else 0)); rw [if_pos rfl]; exact d1) h
      · by_cases he : wh = true ∧ op = 0
        · rw [rm_e hi]
          rw [if_pos he.1] at hr
          have d1 := dpl_po (r := 1) (by decide) st o hr
          rw [pop1_e st hvl (by omega)] at d1
          exact ⟨d1, okO_po (by decide) _ _ ho⟩
        · rw [rd_e0 hi he] at h; exact absurd h (nI_m1 (by omega))
    | some b =>
      obtain ⟨hr, hb, h6, hdg⟩ := hr
      by_cases hc : i < n ∧ inB 48 (c i) 57 = true
      · by_cases e6 : i - b = 6
        · rw [rd_d6 hc.1 hc.2 e6] at h; exact absurd h (nI_m1 (by omega))
        · rw [rd_dg hc.1 hc.2 e6] at h
          rw [rm_dg hc.1 hc.2 e6]
          exact ih _ _ _ _ (some b) _ hn hco hvl ho ⟨hr, by omega, by omega, fun j h1 h2 => if e : j = i then (by rw [e]; exact hc.2) else hdg j h1 (by omega)⟩ h
      · rw [rd_dn hc] at h
        rw [rm_dn hc]
        obtain ⟨v, hv, ev⟩ := nuF_v (c := c) (b := b) (i - b) h6 (fun j h1 h2 => hdg j h1 (by omega))
        have hp : 10 ^ (i - b) ≤ 10 ^ 6 := Nat.pow_le_pow_right (by decide) h6
        have d1 := dpl_po (r := 6) (by decide) st ((0, nuF c b (i - b)) :: o) (dpl_v hr (Or.inl rfl))
        exact ih _ _ _ _ none _ hn (by rw [co_pop (by decide)]; exact hco) (vl_pop _ hvl) (okO_po (by decide) _ _ (okO_cons (Or.inl ⟨rfl, v, by omega, ev⟩) ho)) (by show _ = some (nb (pop 6 st) + (if true = true then 1 else 0)); rw [if_pos rfl]; exact d1) h
theorem rdO_good {n : Nat} {c : Nat → Int32} (hn : n ≤ 50) (h : rdA n c = -1) : dpl (rdO n c) = some 1 ∧ okO (rdO n c) :=
  rd_good _ _ _ _ _ none [] hn rfl trivial (fun x hx => by cases hx) rfl h
