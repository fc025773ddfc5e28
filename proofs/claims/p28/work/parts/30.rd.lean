/-! ===== the reference's reader, told as a function of the text ===== -/
theorem i64_lt {a b : Int32} : a.toInt64 < b.toInt64 ↔ a < b := by
  rw [Int64.lt_iff_toInt_lt, Int32.lt_iff_toInt_lt, Int32.toInt_toInt64, Int32.toInt_toInt64]
theorem is_b {n : Int32} {m : Nat} (hm : m < 2 ^ 30) : inB 0 n (nI m - 1) = inN n m := by
  have e : (nI m - 1).toInt = (m : Int) - 1 := pk_sub_toInt (b := 1) hm (by decide)
  have e0 : (0 : Int32).toInt = 0 := by decide
  unfold inB inN
  refine decide_eq_decide.mpr ?_
  rw [Int32.le_iff_toInt_le, Int32.le_iff_toInt_le, e, e0]
  constructor
  · intro h; omega
  · intro h; omega
def hol (x : Int32) : Int32 := if x = 2 then 6 else if x = 3 then 6 else if x = 4 then 5 else if x = 5 then 5 else if x = 6 then 4 else if x = 7 then 4 else if x = 8 then 3 else if x = 9 then 3 else if x = 10 then 3 else if x = 11 then 2 else if x = 12 then 1 else 0
def nam (x : Int32) : Int32 := if x = 97 then 0 else if x = 108 then 1 else if x = 112 then 3 else if x = 115 then 4 else if x = 116 then 2 else if x = 121 then 5 else -1
def sgn (x : Int32) : Int32 := if x = 38 then 11 else if x = 42 then 4 else if x = 43 then 6 else if x = 45 then 7 else if x = 47 then 5 else if x = 60 then 8 else if x = 61 then 10 else if x = 62 then 9 else if x = 124 then 12 else -1
def pop (r : Int32) : List Int32 → List Int32
  | [] => []
  | x :: l => if r ≤ hol x then pop r l else x :: l
def stk (wa : Nat → Int32) : Nat → List Int32
  | 0 => []
  | n + 1 => wa n :: stk wa n
def nb : List Int32 → Nat
  | [] => 0
  | x :: l => (if x = 2 ∨ x = 3 ∨ x = 13 then 0 else 1) + nb l
def co : List Int32 → Nat
  | [] => 0
  | x :: l => (if x = 13 then 1 else 0) + co l
def vl : List Int32 → Prop
  | [] => True
  | x :: l => (x = 13 ∨ 1 ≤ hol x) ∧ vl l
def gB : List Int32 → Bool
  | [] => false
  | x :: _ => decide (hol x = 3)
def gOn (q : Int32) (st : List Int32) : Option (List Int32) :=
  if hol q = 3 then (if gB (pop 4 st) = true then none else some (q :: pop 3 (pop 4 st))) else some (q :: pop (hol q) st)
def dep (sp : Nat → Int32) : Nat → Option Nat
  | 0 => some 0
  | k + 1 => match dep sp k with
    | none => none
    | some d => if sp k = 0 ∨ sp k = 1 then some (d + 1) else if sp k = 2 ∨ sp k = 3 then (if d = 0 then none else some d) else if d < 2 then none else some (d - 1)
def rdN (n : Nat) (c : Nat → Int32) : Nat → Nat → Nat → Bool → List Int32 → Option Nat → Int32
  | 0, _, _, _, _, _ => 0
  | fl + 1, i, op, wh, st, none =>
    if i < n then
      if c i = 32 then rdN n c fl (i + 1) op wh st none
      else if wh = true then
        (if c i = 41 ∧ 0 < op then rdN n c fl (i + 1) (op - 1) wh (pop 6 (pop 1 st).tail) none
         else if sgn (c i) = -1 then nI (10 * i + 1)
         else match gOn (sgn (c i)) st with
           | none => nI (10 * i + 1)
           | some st' => rdN n c fl (i + 1) op false st' none)
      else if inB 48 (c i) 57 = true then rdN n c fl i op wh st (some i)
      else if nam (c i) = -1 then
        (if c i = 40 then (if op = 8 then nI (10 * i + 3) else rdN n c fl (i + 1) (op + 1) wh (13 :: st) none)
         else if c i = 45 then rdN n c fl (i + 1) op wh (3 :: st) none
         else if c i = 33 then rdN n c fl (i + 1) op wh (2 :: st) none
         else nI (10 * i + 1))
      else rdN n c fl (i + 1) op true (pop 6 st) none
    else if wh = true ∧ op = 0 then -1 else nI (10 * n + 1)
  | fl + 1, i, op, wh, st, some b =>
    if i < n ∧ inB 48 (c i) 57 = true then (if i - b = 6 then nI (10 * b + 2) else rdN n c fl (i + 1) op wh st (some b))
    else rdN n c fl i op true (pop 6 st) none
def rdA (n : Nat) (c : Nat → Int32) : Int32 := rdN n c (3 * n + 1) 0 0 false [] none
theorem rdN_congr {n : Nat} {c c' : Nat → Int32} (h : ∀ k, k < n → c k = c' k) : ∀ (fl i op : Nat) (wh : Bool) (st : List Int32) (r : Option Nat), rdN n c fl i op wh st r = rdN n c' fl i op wh st r := by
  intro fl
  induction fl with
  | zero => intro i op wh st r; cases r <;> rfl
  | succ fl ih =>
    intro i op wh st r
    cases r with
    | none =>
      unfold rdN
      by_cases hi : i < n
      · rw [if_pos hi, if_pos hi, h i hi]
        simp only [ih]
      · rw [if_neg hi, if_neg hi]
    | some b =>
      unfold rdN
      by_cases hi : i < n
      · rw [h i hi]
        simp only [ih]
      · rw [if_neg (fun z => hi z.1), if_neg (fun z => hi z.1), ih]
theorem rdA_congr {n : Nat} {c c' : Nat → Int32} (h : ∀ k, k < n → c k = c' k) : rdA n c = rdA n c' := rdN_congr h _ _ _ _ _ _
section RD
variable {n : Nat} {c : Nat → Int32} {fl i op b : Nat} {wh : Bool} {st st' : List Int32}
theorem rd_sp (hi : i < n) (h : c i = 32) : rdN n c (fl + 1) i op wh st none = rdN n c fl (i + 1) op wh st none := by
  show (if i < n then _ else _) = _
  rw [if_pos hi, if_pos h]
theorem rd_cl (hi : i < n) (h : ¬ c i = 32) (hw : wh = true) (h1 : c i = 41) (h2 : 0 < op) : rdN n c (fl + 1) i op wh st none = rdN n c fl (i + 1) (op - 1) wh (pop 6 (pop 1 st).tail) none := by
  show (if i < n then _ else _) = _
  rw [if_pos hi, if_neg h, if_pos hw, if_pos ⟨h1, h2⟩]
theorem rd_b1 (hi : i < n) (h : ¬ c i = 32) (hw : wh = true) (h1 : ¬ (c i = 41 ∧ 0 < op)) (h2 : sgn (c i) = -1) : rdN n c (fl + 1) i op wh st none = nI (10 * i + 1) := by
  show (if i < n then _ else _) = _
  rw [if_pos hi, if_neg h, if_pos hw, if_neg h1, if_pos h2]
theorem rd_g0 (hi : i < n) (h : ¬ c i = 32) (hw : wh = true) (h1 : ¬ (c i = 41 ∧ 0 < op)) (h2 : ¬ sgn (c i) = -1) (h3 : gOn (sgn (c i)) st = none) : rdN n c (fl + 1) i op wh st none = nI (10 * i + 1) := by
  show (if i < n then _ else _) = _
  rw [if_pos hi, if_neg h, if_pos hw, if_neg h1, if_neg h2, h3]
theorem rd_g1 (hi : i < n) (h : ¬ c i = 32) (hw : wh = true) (h1 : ¬ (c i = 41 ∧ 0 < op)) (h2 : ¬ sgn (c i) = -1) (h3 : gOn (sgn (c i)) st = some st') : rdN n c (fl + 1) i op wh st none = rdN n c fl (i + 1) op false st' none := by
  show (if i < n then _ else _) = _
  rw [if_pos hi, if_neg h, if_pos hw, if_neg h1, if_neg h2, h3]
theorem rd_rn (hi : i < n) (h : ¬ c i = 32) (hw : ¬ wh = true) (h1 : inB 48 (c i) 57 = true) : rdN n c (fl + 1) i op wh st none = rdN n c fl i op wh st (some i) := by
  show (if i < n then _ else _) = _
  rw [if_pos hi, if_neg h, if_neg hw, if_pos h1]
theorem rd_nm (hi : i < n) (h : ¬ c i = 32) (hw : ¬ wh = true) (h1 : ¬ inB 48 (c i) 57 = true) (h2 : ¬ nam (c i) = -1) : rdN n c (fl + 1) i op wh st none = rdN n c fl (i + 1) op true (pop 6 st) none := by
  show (if i < n then _ else _) = _
  rw [if_pos hi, if_neg h, if_neg hw, if_neg h1, if_neg h2]
theorem rd_o8 (hi : i < n) (h : ¬ c i = 32) (hw : ¬ wh = true) (h1 : ¬ inB 48 (c i) 57 = true) (h2 : nam (c i) = -1) (h3 : c i = 40) (h4 : op = 8) : rdN n c (fl + 1) i op wh st none = nI (10 * i + 3) := by
  show (if i < n then _ else _) = _
  rw [if_pos hi, if_neg h, if_neg hw, if_neg h1, if_pos h2, if_pos h3, if_pos h4]
theorem rd_op (hi : i < n) (h : ¬ c i = 32) (hw : ¬ wh = true) (h1 : ¬ inB 48 (c i) 57 = true) (h2 : nam (c i) = -1) (h3 : c i = 40) (h4 : ¬ op = 8) : rdN n c (fl + 1) i op wh st none = rdN n c fl (i + 1) (op + 1) wh (13 :: st) none := by
  show (if i < n then _ else _) = _
  rw [if_pos hi, if_neg h, if_neg hw, if_neg h1, if_pos h2, if_pos h3, if_neg h4]
theorem rd_mi (hi : i < n) (h : ¬ c i = 32) (hw : ¬ wh = true) (h1 : ¬ inB 48 (c i) 57 = true) (h2 : nam (c i) = -1) (h3 : ¬ c i = 40) (h4 : c i = 45) : rdN n c (fl + 1) i op wh st none = rdN n c fl (i + 1) op wh (3 :: st) none := by
  show (if i < n then _ else _) = _
  rw [if_pos hi, if_neg h, if_neg hw, if_neg h1, if_pos h2, if_neg h3, if_pos h4]
theorem rd_no (hi : i < n) (h : ¬ c i = 32) (hw : ¬ wh = true) (h1 : ¬ inB 48 (c i) 57 = true) (h2 : nam (c i) = -1) (h3 : ¬ c i = 40) (h4 : ¬ c i = 45) (h5 : c i = 33) : rdN n c (fl + 1) i op wh st none = rdN n c fl (i + 1) op wh (2 :: st) none := by
  show (if i < n then _ else _) = _
  rw [if_pos hi, if_neg h, if_neg hw, if_neg h1, if_pos h2, if_neg h3, if_neg h4, if_pos h5]
theorem rd_b2 (hi : i < n) (h : ¬ c i = 32) (hw : ¬ wh = true) (h1 : ¬ inB 48 (c i) 57 = true) (h2 : nam (c i) = -1) (h3 : ¬ c i = 40) (h4 : ¬ c i = 45) (h5 : ¬ c i = 33) : rdN n c (fl + 1) i op wh st none = nI (10 * i + 1) := by
  show (if i < n then _ else _) = _
  rw [if_pos hi, if_neg h, if_neg hw, if_neg h1, if_pos h2, if_neg h3, if_neg h4, if_neg h5]
theorem rd_e1 (hi : ¬ i < n) (hw : wh = true) (ho : op = 0) : rdN n c (fl + 1) i op wh st none = -1 := by
  show (if i < n then _ else _) = _
  rw [if_neg hi, if_pos ⟨hw, ho⟩]
theorem rd_e0 (hi : ¬ i < n) (hw : ¬ (wh = true ∧ op = 0)) : rdN n c (fl + 1) i op wh st none = nI (10 * n + 1) := by
  show (if i < n then _ else _) = _
  rw [if_neg hi, if_neg hw]
theorem rd_d6 (hi : i < n) (h : inB 48 (c i) 57 = true) (h6 : i - b = 6) : rdN n c (fl + 1) i op wh st (some b) = nI (10 * b + 2) := by
  show (if _ then _ else _) = _
  rw [if_pos ⟨hi, h⟩, if_pos h6]
theorem rd_dg (hi : i < n) (h : inB 48 (c i) 57 = true) (h6 : ¬ i - b = 6) : rdN n c (fl + 1) i op wh st (some b) = rdN n c fl (i + 1) op wh st (some b) := by
  show (if _ then _ else _) = _
  rw [if_pos ⟨hi, h⟩, if_neg h6]
theorem rd_dn (h : ¬ (i < n ∧ inB 48 (c i) 57 = true)) : rdN n c (fl + 1) i op wh st (some b) = rdN n c fl i op true (pop 6 st) none := by
  show (if _ then _ else _) = _
  rw [if_neg h]
end RD
theorem stk_o {wa : Nat → Int32} {x : Int32} : ∀ (n k : Nat), n ≤ k → stk (upd wa k x) n = stk wa n := by
  intro n
  induction n with
  | zero => intro k _; rfl
  | succ n ih =>
    intro k hk
    show upd wa k x n :: stk (upd wa k x) n = wa n :: stk wa n
    rw [pk_un (by omega), ih k (by omega)]
theorem stk_p {wa : Nat → Int32} {x : Int32} {n : Nat} : stk (upd wa n x) (n + 1) = x :: stk wa n := by
  show upd wa n x n :: stk (upd wa n x) n = _
  rw [pk_us, stk_o n n (Nat.le_refl _)]
theorem stk_t {wa : Nat → Int32} {n : Nat} (h : 0 < n) : stk wa n = wa (n - 1) :: stk wa (n - 1) := by
  obtain ⟨m, rfl⟩ : ∃ m, n = m + 1 := ⟨n - 1, by omega⟩
  rfl
theorem pop_go {wa : Nat → Int32} {n : Nat} {r : Int32} (h : 0 < n) (hr : ¬ hol (wa (n - 1)) < r) : pop r (stk wa n) = pop r (stk wa (n - 1)) := by
  rw [stk_t h]
  show (if r ≤ hol (wa (n - 1)) then _ else _) = _
  rw [if_pos (Int32.not_lt.mp hr)]
theorem pop_st {wa : Nat → Int32} {n : Nat} {r : Int32} (h : 0 < n) (hr : hol (wa (n - 1)) < r) : pop r (stk wa n) = stk wa n := by
  rw [stk_t h]
  show (if r ≤ hol (wa (n - 1)) then _ else _) = _
  rw [if_neg (Int32.not_le.mpr hr)]
theorem pop_0 {wa : Nat → Int32} {n : Nat} {r : Int32} (h : ¬ 0 < n) : pop r (stk wa n) = stk wa n := by
  rw [show n = 0 by omega]; rfl
theorem hol_1 {x r : Int32} (hr : 1 ≤ r) (h : r ≤ hol x) : x ≠ 0 ∧ x ≠ 1 ∧ x ≠ 13 := by
  refine ⟨fun z => ?_, fun z => ?_, fun z => ?_⟩
  · subst z; exact absurd (Int32.le_trans hr h) (by decide)
  · subst z; exact absurd (Int32.le_trans hr h) (by decide)
  · subst z; exact absurd (Int32.le_trans hr h) (by decide)
theorem dep_s {sp : Nat → Int32} {k d : Nat} (h : dep sp k = some d) : dep sp (k + 1) = if sp k = 0 ∨ sp k = 1 then some (d + 1) else if sp k = 2 ∨ sp k = 3 then (if d = 0 then none else some d) else if d < 2 then none else some (d - 1) := by
  show (match dep sp k with | none => none | some d => _) = _
  rw [h]
theorem dep_o {sp : Nat → Int32} {x : Int32} : ∀ (n k : Nat), n ≤ k → dep (upd sp k x) n = dep sp n := by
  intro n
  induction n with
  | zero => intro k _; rfl
  | succ n ih =>
    intro k hk
    show (match dep (upd sp k x) n with | none => none | some d => _) = (match dep sp n with | none => none | some d => _)
    rw [ih k (by omega), pk_un (by omega)]
theorem dep_v {sp : Nat → Int32} {x : Int32} {k d : Nat} (h : dep sp k = some d) (hx : x = 0 ∨ x = 1) : dep (upd sp k x) (k + 1) = some (d + 1) := by
  rw [dep_s ((dep_o k k (Nat.le_refl _)).trans h), pk_us, if_pos hx]
theorem dep_w {sp : Nat → Int32} {wa : Nat → Int32} {k n : Nat} {r : Int32} (h : dep sp k = some (nb (stk wa n) + 1)) (hn : 0 < n) (hr : 1 ≤ r) (hh : ¬ hol (wa (n - 1)) < r) : dep (upd sp k (wa (n - 1))) (k + 1) = some (nb (stk wa (n - 1)) + 1) := by
  have h0 := hol_1 hr (Int32.not_lt.mp hh)
  rw [stk_t hn] at h
  generalize wa (n - 1) = x at h h0 ⊢
  rw [dep_s ((dep_o k k (Nat.le_refl _)).trans h), pk_us, if_neg (fun z => z.elim h0.1 h0.2.1)]
  show (if x = 2 ∨ x = 3 then (if (if x = 2 ∨ x = 3 ∨ x = 13 then 0 else 1) + nb (stk wa (n - 1)) + 1 = 0 then none else some ((if x = 2 ∨ x = 3 ∨ x = 13 then 0 else 1) + nb (stk wa (n - 1)) + 1)) else if (if x = 2 ∨ x = 3 ∨ x = 13 then 0 else 1) + nb (stk wa (n - 1)) + 1 < 2 then none else some ((if x = 2 ∨ x = 3 ∨ x = 13 then 0 else 1) + nb (stk wa (n - 1)) + 1 - 1)) = _
  by_cases h2 : x = 2 ∨ x = 3
  · have e5 : (if x = 2 ∨ x = 3 ∨ x = 13 then 0 else 1) = 0 := if_pos (h2.elim Or.inl (fun z => Or.inr (Or.inl z)))
    rw [if_pos h2, e5, if_neg (by omega), Nat.zero_add]
  · have e5 : (if x = 2 ∨ x = 3 ∨ x = 13 then 0 else 1) = 1 := if_neg (fun z => z.elim (fun q => h2 (Or.inl q)) (fun q => q.elim (fun w => h2 (Or.inr w)) h0.2.2))
    rw [if_neg h2, e5, if_neg (by omega)]
    congr 1
    omega
theorem co_pop {r : Int32} (hr : 1 ≤ r) : ∀ l : List Int32, co (pop r l) = co l := by
  intro l
  induction l with
  | nil => rfl
  | cons x l ih =>
    show co (if r ≤ hol x then pop r l else x :: l) = (if x = 13 then 1 else 0) + co l
    by_cases h : r ≤ hol x
    · rw [if_pos h, ih, if_neg (hol_1 hr h).2.2, Nat.zero_add]
    · rw [if_neg h]; rfl
theorem vl_pop {r : Int32} : ∀ l : List Int32, vl l → vl (pop r l) := by
  intro l
  induction l with
  | nil => intro _; trivial
  | cons x l ih =>
    intro hv
    show vl (if r ≤ hol x then pop r l else x :: l)
    by_cases h : r ≤ hol x
    · rw [if_pos h]; exact ih hv.2
    · rw [if_neg h]; exact hv
/-- behind pop 1 a ( stands on top, if one is open at all -/
theorem pop1_o : ∀ l : List Int32, vl l → 0 < co l → ∃ l', pop 1 l = 13 :: l' := by
  intro l
  induction l with
  | nil => intro _ h; exact absurd h (by decide)
  | cons x l ih =>
    intro hv h
    show ∃ l', (if 1 ≤ hol x then pop 1 l else x :: l) = 13 :: l'
    by_cases h1 : (1 : Int32) ≤ hol x
    · rw [if_pos h1]
      refine ih hv.2 ?_
      have h2 : co (x :: l) = (if x = 13 then 1 else 0) + co l := rfl
      rw [if_neg (hol_1 (Int32.le_refl _) h1).2.2] at h2
      omega
    · rw [if_neg h1]
      rcases hv.1 with h3 | h3
      · exact ⟨l, by rw [h3]⟩
      · exact absurd h3 h1
theorem pop1_e : ∀ l : List Int32, vl l → co l = 0 → pop 1 l = [] := by
  intro l
  induction l with
  | nil => intro _ _; rfl
  | cons x l ih =>
    intro hv h
    have h2 : co (x :: l) = (if x = 13 then 1 else 0) + co l := rfl
    show (if 1 ≤ hol x then pop 1 l else x :: l) = []
    have h3 : ¬ x = 13 := fun z => by rw [if_pos z] at h2; omega
    rw [if_neg h3] at h2
    rw [if_pos (hv.1.resolve_left h3)]
    exact ih hv.2 (by omega)
theorem sgn_ok {x : Int32} (h : ¬ sgn x = -1) : 1 ≤ hol (sgn x) ∧ hol (sgn x) ≤ 5 ∧ ¬ sgn x = 13 ∧ ¬ sgn x = 2 ∧ ¬ sgn x = 3 := by
  by_cases e38 : x = 38
  · subst e38; decide
  by_cases e42 : x = 42
  · subst e42; decide
  by_cases e43 : x = 43
  · subst e43; decide
  by_cases e45 : x = 45
  · subst e45; decide
  by_cases e47 : x = 47
  · subst e47; decide
  by_cases e60 : x = 60
  · subst e60; decide
  by_cases e61 : x = 61
  · subst e61; decide
  by_cases e62 : x = 62
  · subst e62; decide
  by_cases e124 : x = 124
  · subst e124; decide
  exact absurd (show sgn x = -1 by unfold sgn; rw [if_neg e38, if_neg e42, if_neg e43, if_neg e45, if_neg e47, if_neg e60, if_neg e61, if_neg e62, if_neg e124]) h
theorem gOn_co {q : Int32} {st st' : List Int32} (hq : 1 ≤ hol q) (h13 : ¬ q = 13) (h : gOn q st = some st') : co st' = co st := by
  unfold gOn at h
  by_cases h3 : hol q = 3
  · rw [if_pos h3] at h
    split at h
    · cases h
    · cases h
      show (if q = 13 then 1 else 0) + co (pop 3 (pop 4 st)) = co st
      rw [if_neg h13, Nat.zero_add, co_pop (by decide), co_pop (by decide)]
  · rw [if_neg h3] at h
    cases h
    show (if q = 13 then 1 else 0) + co (pop (hol q) st) = co st
    rw [if_neg h13, Nat.zero_add, co_pop hq]
theorem gOn_vl {q : Int32} {st st' : List Int32} (hq : 1 ≤ hol q) (hv : vl st) (h : gOn q st = some st') : vl st' := by
  unfold gOn at h
  by_cases h3 : hol q = 3
  · rw [if_pos h3] at h
    split at h
    · cases h
    · cases h
      exact ⟨Or.inr hq, vl_pop _ (vl_pop _ hv)⟩
  · rw [if_neg h3] at h
    cases h
    exact ⟨Or.inr hq, vl_pop _ hv⟩
theorem gB_t {wa : Nat → Int32} {n : Nat} (h : 0 < n) (h3 : hol (wa (n - 1)) = 3) : gB (stk wa n) = true := by
  rw [stk_t h]; exact decide_eq_true h3
theorem gB_f {wa : Nat → Int32} {n : Nat} (h : 0 < n → ¬ hol (wa (n - 1)) = 3) : ¬ gB (stk wa n) = true := by
  by_cases hn : 0 < n
  · rw [stk_t hn]; exact fun z => h hn (of_decide_eq_true z)
  · rw [show n = 0 by omega]; exact fun z => Bool.noConfusion z
theorem nb_b {q : Int32} {l : List Int32} (h13 : ¬ q = 13) (h2 : ¬ q = 2) (h3 : ¬ q = 3) : nb (q :: l) = nb l + 1 := by
  show (if q = 2 ∨ q = 3 ∨ q = 13 then 0 else 1) + nb l = _
  rw [if_neg (fun z => z.elim h2 (fun w => w.elim h3 h13))]
  omega
theorem close1 {wa : Nat → Int32} {wn w1 op : Nat} (hv : vl (stk wa wn)) (hc : co (stk wa wn) = op) (ho : 0 < op) (h : stk wa w1 = pop 1 (stk wa wn)) :
    0 < w1 ∧ stk wa (w1 - 1) = (pop 1 (stk wa wn)).tail ∧ co (stk wa (w1 - 1)) + 1 = op ∧ vl (stk wa (w1 - 1)) ∧ nb (stk wa w1) = nb (stk wa (w1 - 1)) := by
  obtain ⟨l', hl⟩ := pop1_o _ hv (by omega)
  rw [hl] at h
  have hw : 0 < w1 := by
    rcases Nat.eq_zero_or_pos w1 with h9 | h9
    · rw [h9] at h; cases h
    · exact h9
  rw [stk_t hw] at h
  have h1 := (List.cons.inj h).1
  have h2 := (List.cons.inj h).2
  have h3 : co (13 :: l') = op := by rw [← hl, co_pop (by decide), hc]
  have h4 : vl (13 :: l') := by rw [← hl]; exact vl_pop _ hv
  refine ⟨hw, by rw [hl, h2]; rfl, ?_, by rw [h2]; exact h4.2, ?_⟩
  · rw [h2]
    have h5 : co (13 :: l') = 1 + co l' := rfl
    omega
  · rw [stk_t hw, h1, h2]
    show 0 + nb l' = nb l'
    omega
theorem co_13 {l : List Int32} : co (13 :: l) = co l + 1 := by
  show 1 + co l = _
  omega
theorem co_u {x : Int32} {l : List Int32} (h : ¬ x = 13) : co (x :: l) = co l := by
  show (if x = 13 then 1 else 0) + co l = _
  rw [if_neg h, Nat.zero_add]
theorem nb_u {x : Int32} {l : List Int32} (h : x = 2 ∨ x = 3 ∨ x = 13) : nb (x :: l) = nb l := by
  show (if x = 2 ∨ x = 3 ∨ x = 13 then 0 else 1) + nb l = _
  rw [if_pos h, Nat.zero_add]
theorem nI_m1 {n : Nat} (h : n < 2 ^ 31) : ¬ nI n = -1 := fun z => by
  have h1 := congrArg Int32.toInt z
  rw [nI_toInt h] at h1
  have h2 : (-1 : Int32).toInt = -1 := by decide
  omega

