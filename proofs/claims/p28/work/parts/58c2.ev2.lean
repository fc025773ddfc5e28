/-! ===== letters' values, and the steps of both sides on their rows ===== -/
/-- how many of the first n trials a person sat in, that began before a day -/
def satN (T : Nat → Nat → Int32) (J : Nat → Int32) (day : Int32) (p : Nat) : Nat → Nat
  | 0 => 0
  | o + 1 => satN T J day p o + (if T o 0 < day ∧ bt (J o) p = true then 1 else 0)
/-- years since the last of them -/
def sinV (T : Nat → Nat → Int32) (J : Nat → Int32) (day : Int32) (p : Nat) : Nat → Int32
  | 0 => 999
  | o + 1 => if T o 0 < day ∧ bt (J o) p = true then 100 + day / 100 - (100 + T o 0 / 100) else sinV T J day p o
section SAT
variable {T T' : Nat → Nat → Int32} {J J' : Nat → Int32} {day : Int32} {p o : Nat}
theorem satN_y (h : T o 0 < day ∧ bt (J o) p = true) : satN T J day p (o + 1) = satN T J day p o + 1 := by
  show satN T J day p o + (if T o 0 < day ∧ bt (J o) p = true then 1 else 0) = _
  rw [if_pos h]
theorem satN_n (h : ¬ (T o 0 < day ∧ bt (J o) p = true)) : satN T J day p (o + 1) = satN T J day p o := by
  show satN T J day p o + (if T o 0 < day ∧ bt (J o) p = true then 1 else 0) = _
  rw [if_neg h]; rfl
theorem sinV_y (h : T o 0 < day ∧ bt (J o) p = true) : sinV T J day p (o + 1) = 100 + day / 100 - (100 + T o 0 / 100) := by
  show (if T o 0 < day ∧ bt (J o) p = true then _ else _) = _
  rw [if_pos h]
theorem sinV_n (h : ¬ (T o 0 < day ∧ bt (J o) p = true)) : sinV T J day p (o + 1) = sinV T J day p o := by
  show (if T o 0 < day ∧ bt (J o) p = true then _ else _) = _
  rw [if_neg h]
theorem satN_le : ∀ n, satN T J day p n ≤ n := by
  intro n
  induction n with
  | zero => exact Nat.le_refl _
  | succ n ih =>
    show satN T J day p n + (if T n 0 < day ∧ bt (J n) p = true then 1 else 0) ≤ n + 1
    split <;> omega
theorem sat_congr : ∀ n, (∀ o, o < n → T o 0 = T' o 0) → (∀ o, o < n → J o = J' o) → satN T J day p n = satN T' J' day p n ∧ sinV T J day p n = sinV T' J' day p n := by
  intro n
  induction n with
  | zero => intro _ _; exact ⟨rfl, rfl⟩
  | succ n ih =>
    intro h1 h2
    obtain ⟨e1, e2⟩ := ih (fun o ho => h1 o (by omega)) (fun o ho => h2 o (by omega))
    constructor
    · show satN T J day p n + (if T n 0 < day ∧ bt (J n) p = true then 1 else 0) = satN T' J' day p n + (if T' n 0 < day ∧ bt (J' n) p = true then 1 else 0)
      rw [e1, h1 n (by omega), h2 n (by omega)]
    · show (if T n 0 < day ∧ bt (J n) p = true then 100 + day / 100 - (100 + T n 0 / 100) else sinV T J day p n) = (if T' n 0 < day ∧ bt (J' n) p = true then 100 + day / 100 - (100 + T' n 0 / 100) else sinV T' J' day p n)
      rw [e2, h1 n (by omega), h2 n (by omega)]
/-- trials that began no earlier don't count -/
theorem sat_stop {t : Nat} : ∀ d, (∀ o, t ≤ o → o < t + d → ¬ T o 0 < day) → satN T J day p (t + d) = satN T J day p t ∧ sinV T J day p (t + d) = sinV T J day p t := by
  intro d
  induction d with
  | zero => intro _; exact ⟨rfl, rfl⟩
  | succ d ih =>
    intro h
    obtain ⟨e1, e2⟩ := ih (fun o h1 h2 => h o h1 (by omega))
    have hn : ¬ (T (t + d) 0 < day ∧ bt (J (t + d)) p = true) := fun z => h (t + d) (by omega) (by omega) z.1
    exact ⟨(satN_n (o := t + d) hn).trans e1, (sinV_n (o := t + d) hn).trans e2⟩
end SAT
/-- a letter's value, by its sign -/
def lts (P : Nat → Nat → Int32) (sa : Nat) (sn : Int32) (p : Nat) (day : Int32) (n : Int32) : Int64 :=
  if n = 97 then (100 + day / 100 - P p 3).toInt64 else if n = 108 then (P p 2).toInt64 else if n = 112 then (P p 0).toInt64 else if n = 115 then (nI sa).toInt64 else if n = 116 then (P p 1).toInt64 else sn.toInt64
/-- by its number -/
def ltk (P : Nat → Nat → Int32) (sa : Nat) (sn : Int32) (p : Nat) (day : Int32) (k : Int32) : Int64 := lts P sa sn p day (lett k)
def trn (n : Int32) (u : Int64) : Int64 := if n = 33 then (if u = 0 then 1 else 0) else -u
def jn (n : Int32) (a b : Int64) : Int64 :=
  if n = 38 then (if ¬ a = 0 ∧ ¬ b = 0 then 1 else 0) else if n = 42 then a * b else if n = 43 then a + b else if n = 45 then a - b
  else if n = 60 then (if a < b then 1 else 0) else if n = 61 then (if a = b then 1 else 0) else if n = 62 then (if b < a then 1 else 0)
  else if n = 124 then (if ¬ a = 0 ∨ ¬ b = 0 then 1 else 0) else (if b = 0 then 0 else a / b)
theorem jn_two {a b : Int64} : jn 42 a b = two 4 a b ∧ jn 47 a b = two 5 a b ∧ jn 43 a b = two 6 a b ∧ jn 45 a b = two 7 a b ∧ jn 60 a b = two 8 a b ∧ jn 62 a b = two 9 a b ∧ jn 61 a b = two 10 a b ∧ jn 38 a b = two 11 a b ∧ jn 124 a b = two 12 a b := by
  unfold jn two
  refine ⟨?_, ?_, ?_, ?_, ?_, ?_, ?_, ?_, ?_⟩ <;> simp
def stj (f : Nat → Int64) : Nat → List Int64
  | 0 => []
  | n + 1 => f n :: stj f n
theorem stj_len {f : Nat → Int64} : ∀ n, (stj f n).length = n := by
  intro n
  induction n with
  | zero => rfl
  | succ n ih => show (stj f n).length + 1 = n + 1; rw [ih]
theorem uL_s {f : Nat → Int64} {k : Nat} {x : Int64} : vp_updL f k x k = x := if_pos rfl
theorem uL_n {f : Nat → Int64} {k j : Nat} {x : Int64} (h : j ≠ k) : vp_updL f k x j = f j := if_neg h
theorem stj_o {f : Nat → Int64} {x : Int64} : ∀ (n k : Nat), n ≤ k → stj (vp_updL f k x) n = stj f n := by
  intro n
  induction n with
  | zero => intro k _; rfl
  | succ n ih =>
    intro k hk
    show vp_updL f k x n :: stj (vp_updL f k x) n = f n :: stj f n
    rw [uL_n (by omega), ih k (by omega)]
theorem stj_p {f : Nat → Int64} {x : Int64} {n : Nat} : stj (vp_updL f n x) (n + 1) = x :: stj f n := by
  show vp_updL f n x n :: stj (vp_updL f n x) n = _
  rw [uL_s, stj_o n n (Nat.le_refl _)]
theorem stj_u {f : Nat → Int64} {h : Int64 → Int64} {n : Nat} (hn : 1 ≤ n) : stj (vp_updL f (n - 1) (h (f (n - 1)))) n = stU h (stj f n) := by
  obtain ⟨m, rfl⟩ : ∃ m, n = m + 1 := ⟨n - 1, by omega⟩
  rw [Nat.add_sub_cancel, stj_p]
  rfl
theorem stj_b {f : Nat → Int64} {h : Int64 → Int64 → Int64} {n : Nat} (hn : 2 ≤ n) : stj (vp_updL f (n - 1 - 1) (h (f (n - 1 - 1)) (f (n - 1)))) (n - 1) = stB h (stj f n) := by
  obtain ⟨m, rfl⟩ : ∃ m, n = m + 2 := ⟨n - 2, by omega⟩
  rw [show m + 2 - 1 - 1 = m by omega, show m + 2 - 1 = m + 1 by omega, stj_p]
  rfl
theorem stk_len {f : Nat → Int32} : ∀ n, (stk f n).length = n := by
  intro n
  induction n with
  | zero => rfl
  | succ n ih => show (stk f n).length + 1 = n + 1; rw [ih]
theorem stk_drop {f : Nat → Int32} : ∀ (n i : Nat), i ≤ n → (stk f n).drop (n - i) = stk f i := by
  intro n
  induction n with
  | zero => intro i hi; rw [show i = 0 by omega]; rfl
  | succ n ih =>
    intro i hi
    by_cases e : i = n + 1
    · rw [e, Nat.sub_self]; rfl
    · rw [show n + 1 - i = (n - i) + 1 by omega]
      show (stk f n).drop (n - i) = stk f i
      exact ih i (by omega)
/-- the step at a place, and the steps ahead of it -/
theorem dr_next {sp : Nat → Int32} {sc i : Nat} {l : List (Int32 × Int32)} (h : stk sp sc = l.map cdp) (hi : i < sc) : ∃ x, l.drop (sc - (i + 1)) = x :: l.drop (sc - i) ∧ sp i = cdp x ∧ x ∈ l := by
  have hlen : l.length = sc := by
    have := congrArg List.length h
    rw [stk_len, List.length_map] at this
    exact this.symm
  have hd : l.drop (sc - (i + 1)) = l[sc - (i + 1)]'(by omega) :: l.drop (sc - (i + 1) + 1) := List.drop_eq_getElem_cons (by omega)
  rw [show sc - (i + 1) + 1 = sc - i by omega] at hd
  refine ⟨_, hd, ?_, List.getElem_mem _⟩
  have h1 := stk_drop (f := sp) sc (i + 1) (by omega)
  rw [h, ← List.map_drop, hd] at h1
  have h2 : sp i :: stk sp i = cdp (l[sc - (i + 1)]'(by omega)) :: (l.drop (sc - i)).map cdp := h1.symm
  exact (List.cons.inj h2).1
def stp (sp wi : Nat → Int32) : Nat → List (Int32 × Int32)
  | 0 => []
  | n + 1 => (sp n, wi n) :: stp sp wi n
theorem stp_len {sp wi : Nat → Int32} : ∀ n, (stp sp wi n).length = n := by
  intro n
  induction n with
  | zero => rfl
  | succ n ih => show (stp sp wi n).length + 1 = n + 1; rw [ih]
theorem stp_o {sp wi : Nat → Int32} {x y : Int32} : ∀ (n k : Nat), n ≤ k → stp (upd sp k x) (upd wi k y) n = stp sp wi n := by
  intro n
  induction n with
  | zero => intro k _; rfl
  | succ n ih =>
    intro k hk
    show (upd sp k x n, upd wi k y n) :: stp (upd sp k x) (upd wi k y) n = (sp n, wi n) :: stp sp wi n
    rw [pk_un (by omega), pk_un (by omega), ih k (by omega)]
theorem stp_p {sp wi : Nat → Int32} {x y : Int32} {n : Nat} : stp (upd sp n x) (upd wi n y) (n + 1) = (x, y) :: stp sp wi n := by
  show (upd sp n x n, upd wi n y n) :: stp (upd sp n x) (upd wi n y) n = _
  rw [pk_us, pk_us, stp_o n n (Nat.le_refl _)]
theorem okX_split {x : Int32 × Int32} (h : okX x) : (∃ v, v < 1000000 ∧ x = (0, nI v)) ∨ x = (1, 0) ∨ x = (1, 1) ∨ x = (1, 2) ∨ x = (1, 3) ∨ x = (1, 4) ∨ x = (1, 5) ∨ x.1 = 2 ∨ x.1 = 3 ∨ x.1 = 4 ∨ x.1 = 5 ∨ x.1 = 6 ∨ x.1 = 7 ∨ x.1 = 8 ∨ x.1 = 9 ∨ x.1 = 10 ∨ x.1 = 11 ∨ x.1 = 12 := by
  rcases h with ⟨h1, v, hv, h2⟩ | ⟨h1, v, hv, h2⟩ | h
  · exact Or.inl ⟨v, hv, Prod.ext h1 h2⟩
  · rcases (show v = 0 ∨ v = 1 ∨ v = 2 ∨ v = 3 ∨ v = 4 ∨ v = 5 by omega) with e | e | e | e | e | e <;> subst e
    · exact Or.inr (Or.inl (Prod.ext h1 h2))
    · exact Or.inr (Or.inr (Or.inl (Prod.ext h1 h2)))
    · exact Or.inr (Or.inr (Or.inr (Or.inl (Prod.ext h1 h2))))
    · exact Or.inr (Or.inr (Or.inr (Or.inr (Or.inl (Prod.ext h1 h2)))))
    · exact Or.inr (Or.inr (Or.inr (Or.inr (Or.inr (Or.inl (Prod.ext h1 h2))))))
    · exact Or.inr (Or.inr (Or.inr (Or.inr (Or.inr (Or.inr (Or.inl (Prod.ext h1 h2)))))))
  · exact Or.inr (Or.inr (Or.inr (Or.inr (Or.inr (Or.inr (Or.inr (hol_cases h)))))))

