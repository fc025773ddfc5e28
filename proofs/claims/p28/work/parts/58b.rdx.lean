/-! ===== what the reference's reader emits, told as a function (the last emitted first) ===== -/
def po (r : Int32) : List Int32 → List (Int32 × Int32) → List (Int32 × Int32)
  | [], o => o
  | x :: l, o => if r ≤ hol x then po r l ((x, 0) :: o) else o
def nuF (c : Nat → Int32) (q : Nat) : Nat → Int32
  | 0 => 0
  | k + 1 => 10 * nuF c q k + c (q + k) - 48
def rdM (n : Nat) (c : Nat → Int32) : Nat → Nat → Nat → Bool → List Int32 → Option Nat → List (Int32 × Int32) → List (Int32 × Int32)
  | 0, _, _, _, _, _, _ => []
  | fl + 1, i, op, wh, st, none, o =>
    if i < n then
      if c i = 32 then rdM n c fl (i + 1) op wh st none o
      else if wh = true then
        (if c i = 41 ∧ 0 < op then rdM n c fl (i + 1) (op - 1) wh (pop 6 (pop 1 st).tail) none (po 6 (pop 1 st).tail (po 1 st o))
         else if sgn (c i) = -1 then []
         else match gOn (sgn (c i)) st with
           | none => []
           | some st' => rdM n c fl (i + 1) op false st' none (po (hol (sgn (c i))) st o))
      else if inB 48 (c i) 57 = true then rdM n c fl i op wh st (some i) o
      else if nam (c i) = -1 then
        (if c i = 40 then (if op = 8 then [] else rdM n c fl (i + 1) (op + 1) wh (13 :: st) none o)
         else if c i = 45 then rdM n c fl (i + 1) op wh (3 :: st) none o
         else if c i = 33 then rdM n c fl (i + 1) op wh (2 :: st) none o
         else [])
      else rdM n c fl (i + 1) op true (pop 6 st) none (po 6 st ((1, nam (c i)) :: o))
    else po 1 st o
  | fl + 1, i, op, wh, st, some b, o =>
    if i < n ∧ inB 48 (c i) 57 = true then (if i - b = 6 then [] else rdM n c fl (i + 1) op wh st (some b) o)
    else rdM n c fl i op true (pop 6 st) none (po 6 st ((0, nuF c b (i - b)) :: o))
def rdO (n : Nat) (c : Nat → Int32) : List (Int32 × Int32) := rdM n c (3 * n + 1) 0 0 false [] none []
theorem nuF_congr {n : Nat} {c c' : Nat → Int32} (h : ∀ k, k < n → c k = c' k) : ∀ (k q : Nat), q + k ≤ n → nuF c q k = nuF c' q k := by
  intro k
  induction k with
  | zero => intro q _; rfl
  | succ k ih =>
    intro q hq
    show 10 * nuF c q k + c (q + k) - 48 = 10 * nuF c' q k + c' (q + k) - 48
    rw [ih q (by omega), h (q + k) (by omega)]
theorem rdM_congr {n : Nat} {c c' : Nat → Int32} (h : ∀ k, k < n → c k = c' k) : ∀ (fl i op : Nat) (wh : Bool) (st : List Int32) (r : Option Nat) (o : List (Int32 × Int32)), i ≤ n → (∀ b, r = some b → b ≤ i) → rdM n c fl i op wh st r o = rdM n c' fl i op wh st r o := by
  intro fl
  induction fl with
  | zero => intro i op wh st r o _ _; cases r <;> rfl
  | succ fl ih =>
    intro i op wh st r o hin hb
    have hno : ∀ j b : Nat, (none : Option Nat) = some b → b ≤ j := fun j b z => by cases z
    cases r with
    | none =>
      unfold rdM
      by_cases hi : i < n
      · rw [if_pos hi, if_pos hi, h i hi]
        have e1 := fun op wh st o => ih (i + 1) op wh st none o hi (hno _)
        have e2 := fun op wh st o => ih i op wh st (some i) o hin (fun b z => by cases z; exact Nat.le_refl _)
        simp only [e1, e2]
      · rw [if_neg hi, if_neg hi]
    | some b =>
      have hbi := hb b rfl
      unfold rdM
      by_cases hi : i < n
      · have e1 := fun op wh st o => ih (i + 1) op wh st (some b) o hi (fun b' z => by cases z; omega)
        have e2 := fun op wh st o => ih i op wh st none o hin (hno _)
        rw [h i hi, nuF_congr h (i - b) b (by omega)]
        simp only [e1, e2]
      · rw [if_neg (fun z => hi z.1), if_neg (fun z => hi z.1), ih _ _ _ _ _ _ hin (hno _), nuF_congr h (i - b) b (by omega)]
theorem rdO_congr {n : Nat} {c c' : Nat → Int32} (h : ∀ k, k < n → c k = c' k) : rdO n c = rdO n c' := rdM_congr h _ _ _ _ _ _ _ (Nat.zero_le _) (fun b z => by cases z)
section RM
variable {n : Nat} {c : Nat → Int32} {fl i op b : Nat} {wh : Bool} {st st' : List Int32} {o : List (Int32 × Int32)}
theorem rm_sp (hi : i < n) (h : c i = 32) : rdM n c (fl + 1) i op wh st none o = rdM n c fl (i + 1) op wh st none o := by
  show (if i < n then _ else _) = _
  rw [if_pos hi, if_pos h]
theorem rm_cl (hi : i < n) (h : ¬ c i = 32) (hw : wh = true) (h1 : c i = 41) (h2 : 0 < op) : rdM n c (fl + 1) i op wh st none o = rdM n c fl (i + 1) (op - 1) wh (pop 6 (pop 1 st).tail) none (po 6 (pop 1 st).tail (po 1 st o)) := by
  show (if i < n then _ else _) = _
  rw [if_pos hi, if_neg h, if_pos hw, if_pos ⟨h1, h2⟩]
theorem rm_g1 (hi : i < n) (h : ¬ c i = 32) (hw : wh = true) (h1 : ¬ (c i = 41 ∧ 0 < op)) (h2 : ¬ sgn (c i) = -1) (h3 : gOn (sgn (c i)) st = some st') : rdM n c (fl + 1) i op wh st none o = rdM n c fl (i + 1) op false st' none (po (hol (sgn (c i))) st o) := by
  show (if i < n then _ else _) = _
  rw [if_pos hi, if_neg h, if_pos hw, if_neg h1, if_neg h2, h3]
theorem rm_rn (hi : i < n) (h : ¬ c i = 32) (hw : ¬ wh = true) (h1 : inB 48 (c i) 57 = true) : rdM n c (fl + 1) i op wh st none o = rdM n c fl i op wh st (some i) o := by
  show (if i < n then _ else _) = _
  rw [if_pos hi, if_neg h, if_neg hw, if_pos h1]
theorem rm_nm (hi : i < n) (h : ¬ c i = 32) (hw : ¬ wh = true) (h1 : ¬ inB 48 (c i) 57 = true) (h2 : ¬ nam (c i) = -1) : rdM n c (fl + 1) i op wh st none o = rdM n c fl (i + 1) op true (pop 6 st) none (po 6 st ((1, nam (c i)) :: o)) := by
  show (if i < n then _ else _) = _
  rw [if_pos hi, if_neg h, if_neg hw, if_neg h1, if_neg h2]
theorem rm_op (hi : i < n) (h : ¬ c i = 32) (hw : ¬ wh = true) (h1 : ¬ inB 48 (c i) 57 = true) (h2 : nam (c i) = -1) (h3 : c i = 40) (h4 : ¬ op = 8) : rdM n c (fl + 1) i op wh st none o = rdM n c fl (i + 1) (op + 1) wh (13 :: st) none o := by
  show (if i < n then _ else _) = _
  rw [if_pos hi, if_neg h, if_neg hw, if_neg h1, if_pos h2, if_pos h3, if_neg h4]
theorem rm_mi (hi : i < n) (h : ¬ c i = 32) (hw : ¬ wh = true) (h1 : ¬ inB 48 (c i) 57 = true) (h2 : nam (c i) = -1) (h3 : ¬ c i = 40) (h4 : c i = 45) : rdM n c (fl + 1) i op wh st none o = rdM n c fl (i + 1) op wh (3 :: st) none o := by
  show (if i < n then _ else _) = _
  rw [if_pos hi, if_neg h, if_neg hw, if_neg h1, if_pos h2, if_neg h3, if_pos h4]
theorem rm_no (hi : i < n) (h : ¬ c i = 32) (hw : ¬ wh = true) (h1 : ¬ inB 48 (c i) 57 = true) (h2 : nam (c i) = -1) (h3 : ¬ c i = 40) (h4 : ¬ c i = 45) (h5 : c i = 33) : rdM n c (fl + 1) i op wh st none o = rdM n c fl (i + 1) op wh (2 :: st) none o := by
  show (if i < n then _ else _) = _
  rw [if_pos hi, if_neg h, if_neg hw, if_neg h1, if_pos h2, if_neg h3, if_neg h4, if_pos h5]
theorem rm_e (hi : ¬ i < n) : rdM n c (fl + 1) i op wh st none o = po 1 st o := by
  show (if i < n then _ else _) = _
  rw [if_neg hi]
theorem rm_dg (hi : i < n) (h : inB 48 (c i) 57 = true) (h6 : ¬ i - b = 6) : rdM n c (fl + 1) i op wh st (some b) o = rdM n c fl (i + 1) op wh st (some b) o := by
  show (if _ then _ else _) = _
  rw [if_pos ⟨hi, h⟩, if_neg h6]
theorem rm_dn (h : ¬ (i < n ∧ inB 48 (c i) 57 = true)) : rdM n c (fl + 1) i op wh st (some b) o = rdM n c fl i op true (pop 6 st) none (po 6 st ((0, nuF c b (i - b)) :: o)) := by
  show (if _ then _ else _) = _
  rw [if_neg h]
/-- some digits on -/
theorem rd_run {p : Nat} : ∀ (k fl : Nat), k ≤ 6 → (∀ j, p ≤ j → j < p + k → j < n ∧ inB 48 (c j) 57 = true) → rdN n c (fl + k) p op wh st (some p) = rdN n c fl (p + k) op wh st (some p) := by
  intro k
  induction k with
  | zero => intro fl _ _; rfl
  | succ k ih =>
    intro fl hk h
    have h9 := h (p + k) (by omega) (by omega)
    rw [show fl + (k + 1) = (fl + 1) + k by omega, ih (fl + 1) (by omega) (fun j h1 h2 => h j h1 (by omega)), rd_dg h9.1 h9.2 (by omega)]
    rfl
theorem rm_run {p : Nat} : ∀ (k fl : Nat), k ≤ 6 → (∀ j, p ≤ j → j < p + k → j < n ∧ inB 48 (c j) 57 = true) → rdM n c (fl + k) p op wh st (some p) o = rdM n c fl (p + k) op wh st (some p) o := by
  intro k
  induction k with
  | zero => intro fl _ _; rfl
  | succ k ih =>
    intro fl hk h
    have h9 := h (p + k) (by omega) (by omega)
    rw [show fl + (k + 1) = (fl + 1) + k by omega, ih (fl + 1) (by omega) (fun j h1 h2 => h j h1 (by omega)), rm_dg h9.1 h9.2 (by omega)]
    rfl
end RM
/-! ===== the class's marks and steps beside the reference's ===== -/
def rnk (x : Int32) : Int32 := if x = 33 then 6 else if x = 38 then 2 else if x = 42 then 5 else if x = 43 then 4 else if x = 45 then 4 else if x = 47 then 5 else if x = 60 then 3 else if x = 61 then 3 else if x = 62 then 3 else if x = 124 then 1 else if x = 126 then 6 else 0
def popC (r : Int32) : List Int32 → List Int32
  | [] => []
  | x :: l => if r ≤ rnk x then popC r l else x :: l
def poC (r : Int32) : List Int32 → List Int32 → List Int32
  | [], o => o
  | x :: l, o => if r ≤ rnk x then poC r l (-x :: o) else o
def cmk (x : Int32) : Int32 := if x = 2 then 33 else if x = 3 then 126 else if x = 4 then 42 else if x = 5 then 47 else if x = 6 then 43 else if x = 7 then 45 else if x = 8 then 60 else if x = 9 then 62 else if x = 10 then 61 else if x = 11 then 38 else if x = 12 then 124 else 40
def lett (k : Int32) : Int32 := if k = 0 then 97 else if k = 1 then 108 else if k = 2 then 116 else if k = 3 then 112 else if k = 4 then 115 else 121
def cdp (p : Int32 × Int32) : Int32 := if p.1 = 0 then p.2 else if p.1 = 1 then -(lett p.2) else -(cmk p.1)
theorem hol_cases {x : Int32} (h : 1 ≤ hol x) : x = 2 ∨ x = 3 ∨ x = 4 ∨ x = 5 ∨ x = 6 ∨ x = 7 ∨ x = 8 ∨ x = 9 ∨ x = 10 ∨ x = 11 ∨ x = 12 := by
  by_cases e2 : x = 2
  · exact Or.inl e2
  by_cases e3 : x = 3
  · exact Or.inr (Or.inl e3)
  by_cases e4 : x = 4
  · exact Or.inr (Or.inr (Or.inl e4))
  by_cases e5 : x = 5
  · exact Or.inr (Or.inr (Or.inr (Or.inl e5)))
  by_cases e6 : x = 6
  · exact Or.inr (Or.inr (Or.inr (Or.inr (Or.inl e6))))
  by_cases e7 : x = 7
  · exact Or.inr (Or.inr (Or.inr (Or.inr (Or.inr (Or.inl e7)))))
  by_cases e8 : x = 8
  · exact Or.inr (Or.inr (Or.inr (Or.inr (Or.inr (Or.inr (Or.inl e8))))))
  by_cases e9 : x = 9
  · exact Or.inr (Or.inr (Or.inr (Or.inr (Or.inr (Or.inr (Or.inr (Or.inl e9)))))))
  by_cases e10 : x = 10
  · exact Or.inr (Or.inr (Or.inr (Or.inr (Or.inr (Or.inr (Or.inr (Or.inr (Or.inl e10))))))))
  by_cases e11 : x = 11
  · exact Or.inr (Or.inr (Or.inr (Or.inr (Or.inr (Or.inr (Or.inr (Or.inr (Or.inr (Or.inl e11)))))))))
  by_cases e12 : x = 12
  · exact Or.inr (Or.inr (Or.inr (Or.inr (Or.inr (Or.inr (Or.inr (Or.inr (Or.inr (Or.inr e12)))))))))
  exact absurd (show hol x = 0 by unfold hol; rw [if_neg e2, if_neg e3, if_neg e4, if_neg e5, if_neg e6, if_neg e7, if_neg e8, if_neg e9, if_neg e10, if_neg e11, if_neg e12]) (fun z => by rw [z] at h; exact absurd h (by decide))
theorem rnk_cmk {x : Int32} (h : x = 13 ∨ 1 ≤ hol x) : rnk (cmk x) = hol x := by
  rcases h with h | h
  · subst h; decide
  · rcases hol_cases h with e | e | e | e | e | e | e | e | e | e | e <;> subst e <;> decide
theorem cdp_mk {x : Int32} (h : 1 ≤ hol x) : cdp (x, 0) = -(cmk x) := by
  have h0 := hol_1 (Int32.le_refl 1) h
  unfold cdp
  rw [if_neg h0.1, if_neg h0.2.1]
theorem hol_6 {x : Int32} (h : 6 ≤ hol x) : x = 2 ∨ x = 3 := by
  rcases hol_cases (Int32.le_trans (by decide) h) with e | e | e | e | e | e | e | e | e | e | e
  · exact Or.inl e
  · exact Or.inr e
  all_goals (subst e; exact absurd h (by decide))
theorem popC_map {r : Int32} : ∀ st : List Int32, vl st → popC r (st.map cmk) = (pop r st).map cmk := by
  intro st
  induction st with
  | nil => intro _; rfl
  | cons x l ih =>
    intro hv
    show (if r ≤ rnk (cmk x) then popC r (l.map cmk) else cmk x :: l.map cmk) = (if r ≤ hol x then pop r l else x :: l).map cmk
    rw [rnk_cmk hv.1]
    by_cases h : r ≤ hol x
    · rw [if_pos h, if_pos h, ih hv.2]
    · rw [if_neg h, if_neg h]; rfl
theorem poC_map {r : Int32} (hr : 1 ≤ r) : ∀ (st : List Int32) (o : List (Int32 × Int32)), vl st → poC r (st.map cmk) (o.map cdp) = (po r st o).map cdp := by
  intro st
  induction st with
  | nil => intro o _; rfl
  | cons x l ih =>
    intro o hv
    show (if r ≤ rnk (cmk x) then poC r (l.map cmk) (-(cmk x) :: o.map cdp) else o.map cdp) = (if r ≤ hol x then po r l ((x, 0) :: o) else o).map cdp
    rw [rnk_cmk hv.1]
    by_cases h : r ≤ hol x
    · rw [if_pos h, if_pos h, ← ih ((x, 0) :: o) hv.2, List.map_cons, cdp_mk (Int32.le_trans hr h)]
    · rw [if_neg h, if_neg h]
def un6 (us : List Int32) : Prop := ∀ u, u ∈ us → u = 2 ∨ u = 3
theorem hol_u {u : Int32} (h : u = 2 ∨ u = 3) : hol u = 6 := by
  rcases h with h | h <;> subst h <;> decide
theorem pop_us {r : Int32} (hr : r ≤ 6) {st : List Int32} : ∀ us : List Int32, un6 us → pop r (us ++ st) = pop r st := by
  intro us
  induction us with
  | nil => intro _; rfl
  | cons u us ih =>
    intro h
    show (if r ≤ hol u then pop r (us ++ st) else u :: (us ++ st)) = _
    rw [hol_u (h u List.mem_cons_self), if_pos hr, ih (fun v hv => h v (List.mem_cons_of_mem _ hv))]
theorem po_us {r : Int32} (hr : r ≤ 6) {st : List Int32} : ∀ (us : List Int32) (o : List (Int32 × Int32)), un6 us → po r (us ++ st) o = po r st (po 6 us o) := by
  intro us
  induction us with
  | nil => intro o _; rfl
  | cons u us ih =>
    intro o h
    show (if r ≤ hol u then po r (us ++ st) ((u, 0) :: o) else o) = po r st (if 6 ≤ hol u then po 6 us ((u, 0) :: o) else o)
    rw [hol_u (h u List.mem_cons_self), if_pos hr, if_pos (by decide), ih _ (fun v hv => h v (List.mem_cons_of_mem _ hv))]
theorem vl_us {st : List Int32} (hv : vl st) : ∀ us : List Int32, un6 us → vl (us ++ st) := by
  intro us
  induction us with
  | nil => intro _; exact hv
  | cons u us ih =>
    intro h
    refine ⟨Or.inr ?_, ih (fun v hv => h v (List.mem_cons_of_mem _ hv))⟩
    rw [hol_u (h u List.mem_cons_self)]; decide
theorem split6 : ∀ st : List Int32, ∃ us, st = us ++ pop 6 st ∧ un6 us ∧ ∀ o, po 6 st o = po 6 us o := by
  intro st
  induction st with
  | nil => exact ⟨[], rfl, fun u h => (by cases h), fun o => rfl⟩
  | cons x l ih =>
    by_cases h : 6 ≤ hol x
    · obtain ⟨us, e1, e2, e3⟩ := ih
      refine ⟨x :: us, ?_, ?_, ?_⟩
      · show x :: l = x :: us ++ (if 6 ≤ hol x then pop 6 l else x :: l)
        rw [if_pos h]
        show x :: l = x :: (us ++ pop 6 l)
        rw [← e1]
      · intro u hu
        rcases List.mem_cons.mp hu with e | e
        · rw [e]; exact hol_6 h
        · exact e2 u e
      · intro o
        show (if 6 ≤ hol x then po 6 l ((x, 0) :: o) else o) = (if 6 ≤ hol x then po 6 us ((x, 0) :: o) else o)
        rw [if_pos h, if_pos h, e3]
    · refine ⟨[], ?_, fun u h => (by cases h), fun o => ?_⟩
      · show x :: l = (if 6 ≤ hol x then pop 6 l else x :: l)
        rw [if_neg h]
      · show (if 6 ≤ hol x then po 6 l ((x, 0) :: o) else o) = o
        rw [if_neg h]
/-- settles 4, then settles 3: as settles 3 -/
theorem pop_34 : ∀ st : List Int32, pop 3 (pop 4 st) = pop 3 st := by
  intro st
  induction st with
  | nil => rfl
  | cons x l ih =>
    show pop 3 (if 4 ≤ hol x then pop 4 l else x :: l) = (if 3 ≤ hol x then pop 3 l else x :: l)
    by_cases h : 4 ≤ hol x
    · rw [if_pos h, if_pos (Int32.le_trans (by decide) h), ih]
    · rw [if_neg h]; rfl
theorem po_34 : ∀ (st : List Int32) (o : List (Int32 × Int32)), po 3 (pop 4 st) (po 4 st o) = po 3 st o := by
  intro st
  induction st with
  | nil => intro o; rfl
  | cons x l ih =>
    intro o
    show po 3 (if 4 ≤ hol x then pop 4 l else x :: l) (if 4 ≤ hol x then po 4 l ((x, 0) :: o) else o) = (if 3 ≤ hol x then po 3 l ((x, 0) :: o) else o)
    by_cases h : 4 ≤ hol x
    · rw [if_pos h, if_pos h, if_pos (Int32.le_trans (by decide) h), ih]
    · rw [if_neg h, if_neg h]; rfl
/-! ===== which HELD has its < > = : the class's bits beside the reference's marks ===== -/
def cOK (cm : Int32) : Nat → Bool → List Int32 → Prop
  | op, b, [] => bt cm op = b
  | op, b, x :: l => if x = 13 then bt cm op = b ∧ cOK cm (op - 1) false l else cOK cm op (b || decide (hol x = 3)) l
def srt : List Int32 → Prop
  | [] => True
  | x :: l => (∀ y l', l = y :: l' → y = 13 ∨ x = 13 ∨ hol y < hol x ∨ hol x = 6) ∧ srt l
theorem cOK_13 {cm : Int32} {op : Nat} {b : Bool} {l : List Int32} : cOK cm op b (13 :: l) ↔ (bt cm op = b ∧ cOK cm (op - 1) false l) := by
  show (if (13 : Int32) = 13 then _ else _) ↔ _
  rw [if_pos rfl]
theorem cOK_x {cm x : Int32} {op : Nat} {b : Bool} {l : List Int32} (h : ¬ x = 13) : cOK cm op b (x :: l) ↔ cOK cm op (b || decide (hol x = 3)) l := by
  show (if x = 13 then _ else _) ↔ _
  rw [if_neg h]
theorem cOK_n3 {cm x : Int32} {op : Nat} {b : Bool} {l : List Int32} (h : ¬ x = 13) (h3 : ¬ hol x = 3) : cOK cm op b (x :: l) ↔ cOK cm op b l := by
  rw [cOK_x h, decide_eq_false h3, Bool.or_false]
theorem cOK_congr {cm cm' : Int32} : ∀ (l : List Int32) (op : Nat) (b : Bool), (∀ j, j ≤ op → bt cm' j = bt cm j) → cOK cm op b l → cOK cm' op b l := by
  intro l
  induction l with
  | nil => intro op b h hc; exact (h op (Nat.le_refl _)).trans hc
  | cons x l ih =>
    intro op b h hc
    by_cases e : x = 13
    · subst e
      rw [cOK_13] at hc ⊢
      exact ⟨(h op (Nat.le_refl _)).trans hc.1, ih _ _ (fun j hj => h j (by omega)) hc.2⟩
    · rw [cOK_x e] at hc ⊢
      exact ih _ _ h hc
theorem cOK_t {cm : Int32} : ∀ (l : List Int32) (op : Nat), cOK cm op true l → bt cm op = true := by
  intro l
  induction l with
  | nil => intro op h; exact h
  | cons x l ih =>
    intro op h
    by_cases e : x = 13
    · subst e; exact (cOK_13.mp h).1
    · rw [cOK_x e, Bool.true_or] at h; exact ih _ h
/-- the bit is set: nothing hangs on what stands in this HELD -/
theorem cOK_set0 {cm cm' : Int32} : ∀ (l : List Int32) (op : Nat) (b : Bool), bt cm' op = true → (∀ j, j < op → bt cm' j = bt cm j) → co l ≤ op → cOK cm op b l → cOK cm' op true l := by
  intro l
  induction l with
  | nil => intro op b h _ _ _; exact h
  | cons x l ih =>
    intro op b h hj hco hc
    by_cases e : x = 13
    · subst e
      rw [cOK_13] at hc ⊢
      rw [co_13] at hco
      exact ⟨h, cOK_congr _ _ _ (fun j hj9 => hj j (by omega)) hc.2⟩
    · rw [cOK_x e, Bool.true_or]
      rw [cOK_x e] at hc
      rw [co_u e] at hco
      exact ih op _ h hj hco hc
theorem cOK_set {cm cm' : Int32} {r : Int32} (hr : 1 ≤ r) : ∀ (l : List Int32) (op : Nat) (b : Bool), bt cm' op = true → (∀ j, j < op → bt cm' j = bt cm j) → co l ≤ op → cOK cm op b l → cOK cm' op true (pop r l) := by
  intro l
  induction l with
  | nil => intro op b h _ _ _; exact h
  | cons x l ih =>
    intro op b h hj hco hc
    show cOK cm' op true (if r ≤ hol x then pop r l else x :: l)
    by_cases hp : r ≤ hol x
    · have h13 := (hol_1 hr hp).2.2
      rw [if_pos hp]
      rw [cOK_x h13] at hc
      rw [co_u h13] at hco
      exact ih op _ h hj hco hc
    · rw [if_neg hp]
      exact cOK_set0 _ op b h hj hco hc
theorem cOK_clr0 {cm cm' : Int32} : ∀ (l : List Int32) (op : Nat) (b : Bool), srt l → (∀ y l', l = y :: l' → ¬ y = 13 → hol y < 3) → bt cm' op = false → (∀ j, j < op → bt cm' j = bt cm j) → co l ≤ op → cOK cm op b l → cOK cm' op false l := by
  intro l
  induction l with
  | nil => intro op b _ _ h _ _ _; exact h
  | cons x l ih =>
    intro op b hs hx h hj hco hc
    by_cases e : x = 13
    · subst e
      rw [cOK_13] at hc ⊢
      rw [co_13] at hco
      exact ⟨h, cOK_congr _ _ _ (fun j hj9 => hj j (by omega)) hc.2⟩
    · have h3 := hx x l rfl e
      have n3 : ¬ hol x = 3 := fun z => by rw [z] at h3; exact absurd h3 (by decide)
      rw [cOK_n3 e n3] at hc ⊢
      rw [co_u e] at hco
      refine ih op b hs.2 (fun y l' e9 h13 => ?_) h hj hco hc
      rcases hs.1 y l' e9 with q | q | q | q
      · exact absurd q h13
      · exact absurd q e
      · exact Int32.lt_trans q h3
      · rw [q] at h3; exact absurd h3 (by decide)
/-- the bit is cleared, and what is left binds less than < > = -/
theorem cOK_clr {cm cm' : Int32} {r : Int32} (hr : 1 ≤ r) (hr3 : r < 3) : ∀ (l : List Int32) (op : Nat) (b : Bool), srt l → bt cm' op = false → (∀ j, j < op → bt cm' j = bt cm j) → co l ≤ op → cOK cm op b l → cOK cm' op false (pop r l) := by
  intro l
  induction l with
  | nil => intro op b _ h _ _ _; exact h
  | cons x l ih =>
    intro op b hs h hj hco hc
    show cOK cm' op false (if r ≤ hol x then pop r l else x :: l)
    by_cases hp : r ≤ hol x
    · have h13 := (hol_1 hr hp).2.2
      rw [if_pos hp]
      rw [cOK_x h13] at hc
      rw [co_u h13] at hco
      exact ih op _ hs.2 h hj hco hc
    · rw [if_neg hp]
      exact cOK_clr0 _ op b hs (fun y l' e q => by cases e; exact Int32.lt_trans (Int32.not_le.mp hp) hr3) h hj hco hc
theorem cOK_pop {cm : Int32} {r : Int32} (hr : 4 ≤ r) : ∀ (l : List Int32) (op : Nat), cOK cm op false l → cOK cm op false (pop r l) := by
  intro l
  induction l with
  | nil => intro op h; exact h
  | cons x l ih =>
    intro op h
    show cOK cm op false (if r ≤ hol x then pop r l else x :: l)
    by_cases hp : r ≤ hol x
    · rw [if_pos hp]
      rw [cOK_n3 (hol_1 (Int32.le_trans (by decide) hr) hp).2.2 (fun z => by rw [z] at hp; exact absurd (Int32.le_trans hr hp) (by decide))] at h
      exact ih op h
    · rw [if_neg hp]; exact h
/-- below a mark that binds less than < > = stands none in this HELD -/
theorem cOK_low {cm : Int32} : ∀ (l : List Int32) (x : Int32) (op : Nat) (b : Bool), srt (x :: l) → ¬ x = 13 → hol x < 3 → cOK cm op b (x :: l) → bt cm op = b := by
  intro l
  induction l with
  | nil =>
    intro x op b _ h13 h3 hc
    rw [cOK_n3 h13 (fun z => by rw [z] at h3; exact absurd h3 (by decide))] at hc
    exact hc
  | cons y l ih =>
    intro x op b hs h13 h3 hc
    rw [cOK_n3 h13 (fun z => by rw [z] at h3; exact absurd h3 (by decide))] at hc
    by_cases e : y = 13
    · subst e; exact (cOK_13.mp hc).1
    · rcases hs.1 y l rfl with q | q | q | q
      · exact absurd q e
      · exact absurd q h13
      · exact ih y op b hs.2 e (Int32.lt_trans q h3) hc
      · rw [q] at h3; exact absurd h3 (by decide)
theorem srt_pop {r : Int32} : ∀ l : List Int32, srt l → srt (pop r l) := by
  intro l
  induction l with
  | nil => intro _; trivial
  | cons x l ih =>
    intro h
    show srt (if r ≤ hol x then pop r l else x :: l)
    by_cases hp : r ≤ hol x
    · rw [if_pos hp]; exact ih h.2
    · rw [if_neg hp]; exact h
/-- behind pop r the top binds less than r -/
theorem pop_top {r : Int32} : ∀ (l : List Int32) (y : Int32) (l' : List Int32), pop r l = y :: l' → hol y < r := by
  intro l
  induction l with
  | nil => intro y l' h; cases h
  | cons x l ih =>
    intro y l' h
    have h : (if r ≤ hol x then pop r l else x :: l) = y :: l' := h
    by_cases hp : r ≤ hol x
    · rw [if_pos hp] at h; exact ih y l' h
    · rw [if_neg hp] at h
      cases h
      exact Int32.not_le.mp hp
theorem srt_push {q : Int32} {l : List Int32} (h : srt l) : srt (q :: pop (hol q) l) :=
  ⟨fun y l' e => Or.inr (Or.inr (Or.inl (pop_top _ _ _ e))), srt_pop _ h⟩
/-- the class's bit tells what the reference finds below its marks -/
theorem cOK_again {cm : Int32} {op : Nat} {l : List Int32} (hv : vl l) (hs : srt l) (hc : cOK cm op false l) : bt cm op = gB (pop 4 l) := by
  have h1 := cOK_pop (r := 4) (by decide) l op hc
  have h2 := srt_pop (r := 4) l hs
  have h3 := vl_pop (r := 4) l hv
  have h4 := pop_top (r := 4) l
  generalize pop 4 l = m at h1 h2 h3 h4
  cases m with
  | nil => exact h1
  | cons x k =>
    by_cases e : x = 13
    · subst e
      rw [(cOK_13.mp h1).1]; rfl
    · by_cases e3 : hol x = 3
      · rw [cOK_x e, decide_eq_true e3, Bool.or_true] at h1
        rw [cOK_t _ _ h1]
        exact (decide_eq_true e3).symm
      · have h5 := h4 x k rfl
        have h6 : hol x < 3 := by
          have a1 := Int32.lt_iff_toInt_lt.mp h5
          have a2 : ¬ (hol x).toInt = (3 : Int32).toInt := fun z => e3 (Int32.toInt_inj.mp z)
          have a3 : (4 : Int32).toInt = 4 := by decide
          have a4 : (3 : Int32).toInt = 3 := by decide
          exact Int32.lt_iff_toInt_lt.mpr (by omega)
        rw [cOK_low k x op false h2 e h6 h1]
        exact (decide_eq_false e3).symm

