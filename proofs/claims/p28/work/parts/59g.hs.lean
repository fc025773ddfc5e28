/-! ===== sets of people as bits, who is drawn, who is struck, who sits ===== -/
/-- one bit -/
def b1 (p : Nat) : Int32 := (1 : Int32) <<< (nI p &&& 31)
theorem bt_b1 {p n : Nat} (hp : p < 32) : bt (b1 p) n = (decide (n < 32) && decide (n = p)) := bt_one hp
/-- the set of those below n of whom q holds -/
def sO (q : Nat → Bool) : Nat → Int32
  | 0 => 0
  | n + 1 => if q n = true then sO q n ||| b1 n else sO q n
theorem bt_sO {q : Nat → Bool} : ∀ (n k : Nat), n ≤ 32 → bt (sO q n) k = (decide (k < n) && q k) := by
  intro n
  induction n with
  | zero => intro k _; show bt 0 k = _; rw [bt_zero]; simp
  | succ n ih =>
    intro k hn
    show bt (if q n = true then sO q n ||| b1 n else sO q n) k = _
    by_cases hq : q n = true
    · rw [if_pos hq, bt_or, ih k (by omega), bt_b1 (by omega)]
      by_cases e : k = n
      · subst e; simp [hq, show k < 32 by omega]
      · by_cases h : k < n
        · simp [h, e, show k < n + 1 by omega]
        · simp [h, e, show ¬ k < n + 1 by omega]
    · rw [if_neg hq, ih k (by omega)]
      by_cases e : k = n
      · subst e; simp [eq_false_of_ne_true hq]
      · by_cases h : k < n
        · simp [h, show k < n + 1 by omega]
        · simp [h, show ¬ k < n + 1 by omega]
/-- a number whose bits are told is that set -/
theorem eq_sO {x : Int32} {q : Nat → Bool} {n : Nat} (hn : n ≤ 32) (h : ∀ k, k < 32 → bt x k = (decide (k < n) && q k)) : x = sO q n :=
  bt_ext (fun k hk => (h k hk).trans (bt_sO n k hn).symm)
theorem sO_congr {q q' : Nat → Bool} : ∀ n, (∀ k, k < n → q k = q' k) → sO q n = sO q' n := by
  intro n
  induction n with
  | zero => intro _; rfl
  | succ n ih =>
    intro h
    show (if q n = true then sO q n ||| b1 n else sO q n) = (if q' n = true then sO q' n ||| b1 n else sO q' n)
    rw [h n (by omega), ih (fun k hk => h k (by omega))]
/-! counting -/
theorem cnt_congr {x y : Int32} : ∀ n, (∀ k, k < n → bt x k = bt y k) → cnt x n = cnt y n := by
  intro n
  induction n with
  | zero => intro _; rfl
  | succ n ih =>
    intro h
    show cnt x n + (if bt x n = true then 1 else 0) = cnt y n + (if bt y n = true then 1 else 0)
    rw [h n (by omega), ih (fun k hk => h k (by omega))]
theorem cnt_up {x : Int32} {n : Nat} : ∀ d, (∀ k, n ≤ k → k < n + d → bt x k = false) → cnt x (n + d) = cnt x n := by
  intro d
  induction d with
  | zero => intro _; rfl
  | succ d ih =>
    intro h
    show cnt x (n + d) + (if bt x (n + d) = true then 1 else 0) = _
    rw [ih (fun k h1 h2 => h k h1 (by omega)), h (n + d) (by omega) (by omega), if_neg (by decide), Nat.add_zero]
theorem cnt_0 : ∀ n, cnt 0 n = 0 := by
  intro n
  induction n with
  | zero => rfl
  | succ n ih => show cnt 0 n + (if bt 0 n = true then 1 else 0) = 0; rw [ih, bt_zero, if_neg (by decide)]
/-- one more -/
theorem cnt_or {x : Int32} {p : Nat} (hp : p < 32) (hx : bt x p = false) : ∀ n, p < n → n ≤ 32 → cnt (x ||| b1 p) n = cnt x n + 1 := by
  have h1 : ∀ n, n ≤ p → cnt (x ||| b1 p) n = cnt x n := fun n hn => cnt_congr n (fun k hk => by
    rw [bt_or, bt_b1 hp, decide_eq_false (show ¬ k = p by omega), Bool.and_false, Bool.or_false])
  intro n
  induction n with
  | zero => intro h _; omega
  | succ n ih =>
    intro h hn
    show cnt (x ||| b1 p) n + (if bt (x ||| b1 p) n = true then 1 else 0) = cnt x n + (if bt x n = true then 1 else 0) + 1
    by_cases e : n = p
    · subst e
      rw [h1 n (Nat.le_refl _), bt_or, bt_b1 hp, hx]
      simp [hp]
    · rw [ih (by omega) (by omega), bt_or, bt_b1 hp, decide_eq_false e, Bool.and_false, Bool.or_false]
      omega
/-- one less -/
theorem cnt_del {x : Int32} {p : Nat} (hp : p < 32) (hx : bt x p = true) (n : Nat) (h : p < n) (hn : n ≤ 32) : cnt (x &&& (b1 p ^^^ (-1))) n + 1 = cnt x n := by
  have e : x = (x &&& (b1 p ^^^ (-1))) ||| b1 p := bt_ext (fun k hk => by
    rw [bt_or, bt_and, bt_not hk, bt_b1 hp, decide_eq_true hk, Bool.true_and]
    by_cases e : k = p
    · subst e; simp [hx]
    · simp [e])
  have h0 : bt (x &&& (b1 p ^^^ (-1))) p = false := by
    rw [bt_and, bt_not hp, bt_b1 hp]; simp [hp]
  rw [← cnt_or hp h0 n h hn, ← e]
/-! the nth of a set -/
def lsB (x : Int32) : Nat → List Nat
  | 0 => []
  | n + 1 => lsB x n ++ (if bt x n = true then [n] else [])
theorem lsB_len {x : Int32} : ∀ n, (lsB x n).length = cnt x n := by
  intro n
  induction n with
  | zero => rfl
  | succ n ih =>
    show (lsB x n ++ (if bt x n = true then [n] else [])).length = cnt x n + (if bt x n = true then 1 else 0)
    rw [List.length_append, ih]
    by_cases h : bt x n = true
    · rw [if_pos h, if_pos h]; rfl
    · rw [if_neg h, if_neg h]; rfl
theorem lsB_mem {x : Int32} {p : Nat} : ∀ n, p ∈ lsB x n ↔ (p < n ∧ bt x p = true) := by
  intro n
  induction n with
  | zero => constructor
            · intro h; cases h
            · intro h; omega
  | succ n ih =>
    show p ∈ lsB x n ++ (if bt x n = true then [n] else []) ↔ _
    rw [List.mem_append, ih]
    by_cases h : bt x n = true
    · rw [if_pos h, List.mem_singleton]
      constructor
      · rintro (⟨h1, h2⟩ | h1)
        · exact ⟨by omega, h2⟩
        · subst h1; exact ⟨by omega, h⟩
      · rintro ⟨h1, h2⟩
        by_cases e : p = n
        · exact Or.inr e
        · exact Or.inl ⟨by omega, h2⟩
    · rw [if_neg h]
      constructor
      · rintro (⟨h1, h2⟩ | h1)
        · exact ⟨by omega, h2⟩
        · cases h1
      · rintro ⟨h1, h2⟩
        by_cases e : p = n
        · subst e; exact absurd h2 h
        · exact Or.inl ⟨by omega, h2⟩
def nthB (x : Int32) (k : Nat) : Nat := (lsB x 30).getD k 0
theorem nthB_ok {x : Int32} {k : Nat} (h : k < cnt x 30) : nthB x k < 30 ∧ bt x (nthB x k) = true := by
  have hl : k < (lsB x 30).length := by rw [lsB_len]; exact h
  have e : nthB x k = (lsB x 30)[k] := by
    unfold nthB
    rw [List.getD_eq_getElem?_getD, List.getElem?_eq_getElem hl]; rfl
  rw [e]
  exact (lsB_mem 30).mp (List.getElem_mem hl)
/-- how many stand ahead of it -/
theorem nthB_at {x : Int32} {i : Nat} : ∀ n, i < n → bt x i = true → (lsB x n)[cnt x i]? = some i := by
  intro n
  induction n with
  | zero => intro h _; omega
  | succ n ih =>
    intro h hb
    show (lsB x n ++ (if bt x n = true then [n] else []))[cnt x i]? = some i
    by_cases e : i = n
    · subst e
      rw [if_pos hb, List.getElem?_append_right (by rw [lsB_len]; exact Nat.le_refl _), lsB_len, Nat.sub_self]; rfl
    · have := ih (by omega) hb
      have hlt : cnt x i < (lsB x n).length := (List.getElem?_eq_some_iff.mp this).1
      rw [List.getElem?_append_left hlt]; exact this
theorem nthB_cnt {x : Int32} {i : Nat} (h : i < 30) (hb : bt x i = true) : nthB x (cnt x i) = i := by
  unfold nthB
  rw [List.getD_eq_getElem?_getD, nthB_at 30 h hb]; rfl
/-- the list without one of its set -/
theorem lsB_del {x : Int32} {p : Nat} (hp : p < 32) (hb : bt x p = true) : ∀ n, n ≤ 32 → lsB (x &&& (b1 p ^^^ (-1))) n = if p < n then (lsB x n).eraseIdx (cnt x p) else lsB x n := by
  have hk : ∀ k, k < 32 → bt (x &&& (b1 p ^^^ (-1))) k = (bt x k && !decide (k = p)) := fun k h => by
    rw [bt_and, bt_not h, bt_b1 hp, decide_eq_true h, Bool.true_and]
  intro n
  induction n with
  | zero => intro _; rw [if_neg (by omega)]; rfl
  | succ n ih =>
    intro hn
    have ih := ih (by omega)
    show lsB (x &&& (b1 p ^^^ (-1))) n ++ (if bt (x &&& (b1 p ^^^ (-1))) n = true then [n] else []) = _
    rw [ih, hk n (by omega)]
    by_cases e : n = p
    · subst e
      rw [if_neg (Nat.lt_irrefl n), if_pos (Nat.lt_succ_self n), hb, decide_eq_true (rfl : n = n)]
      show lsB x n ++ [] = (lsB x n ++ (if bt x n = true then [n] else [])).eraseIdx (cnt x n)
      rw [if_pos hb, List.append_nil, ← lsB_len n, List.eraseIdx_append_of_length_le (Nat.le_refl _), Nat.sub_self]
      show lsB x n = lsB x n ++ []
      rw [List.append_nil]
    · rw [decide_eq_false e, Bool.not_false, Bool.and_true]
      by_cases h : p < n
      · rw [if_pos h, if_pos (show p < n + 1 by omega)]
        show _ = (lsB x n ++ (if bt x n = true then [n] else [])).eraseIdx (cnt x p)
        have hlt : cnt x p < (lsB x n).length := (List.getElem?_eq_some_iff.mp (nthB_at n h hb)).1
        rw [List.eraseIdx_append_of_lt_length hlt]
      · rw [if_neg h, if_neg (show ¬ p < n + 1 by omega)]; rfl
/-! the lots -/
def lotF (o0 : Int32) : Nat → Int32
  | 0 => o0
  | j + 1 => lotF o0 j * 1103515245 + 12345
def lix (lot : Int32) (n : Nat) : Nat := lot.toBitVec.toNat / 65536 % n
def drC (box o0 : Int32) : Nat → Int32
  | 0 => 0
  | j + 1 => drC box o0 j ||| b1 (nthB (box &&& (drC box o0 j ^^^ (-1))) (lix (lotF o0 (j + 1)) (cnt (box &&& (drC box o0 j ^^^ (-1))) 30)))
/-- what is left in the box, who is drawn -/
def drB (box o0 : Int32) (j : Nat) : Int32 := box &&& (drC box o0 j ^^^ (-1))
def drP (box o0 : Int32) (j : Nat) : Nat := nthB (drB box o0 j) (lix (lotF o0 (j + 1)) (cnt (drB box o0 j) 30))
theorem drC_s {box o0 : Int32} {j : Nat} : drC box o0 (j + 1) = drC box o0 j ||| b1 (drP box o0 j) := rfl
theorem drB_s {box o0 : Int32} {j : Nat} (h : drP box o0 j < 30) : drB box o0 (j + 1) = drB box o0 j &&& (b1 (drP box o0 j) ^^^ (-1)) := by
  apply bt_ext
  intro k hk
  unfold drB
  rw [drC_s, bt_and, bt_not hk, bt_or, bt_and, bt_and, bt_not hk, bt_not hk, Bool.not_or, Bool.and_assoc]
theorem dr_ok {box o0 : Int32} {j : Nat} (h : 0 < cnt (drB box o0 j) 30) : drP box o0 j < 30 ∧ bt (drB box o0 j) (drP box o0 j) = true :=
  nthB_ok (Nat.mod_lt _ h)
/-- each draw takes one of those left -/
theorem dr_cnt {box o0 : Int32} : ∀ j, j ≤ cnt box 30 → cnt (drB box o0 j) 30 + j = cnt box 30 := by
  intro j
  induction j with
  | zero =>
    intro _
    have e : drB box o0 0 = box := bt_ext (fun k hk => by
      show bt (box &&& ((0 : Int32) ^^^ (-1))) k = _
      rw [bt_and, bt_not hk, bt_zero, Bool.not_false, Bool.and_true])
    rw [e, Nat.add_zero]
  | succ j ih =>
    intro h
    have ih := ih (by omega)
    obtain ⟨h1, h2⟩ := dr_ok (box := box) (o0 := o0) (j := j) (by omega)
    rw [drB_s h1]
    have := cnt_del (by omega) h2 30 h1 (by omega)
    omega
/-- who was drawn was not drawn ahead, and lies in the box -/
theorem dr_in {box o0 : Int32} {j : Nat} (h : j < cnt box 30) : drP box o0 j < 30 ∧ bt box (drP box o0 j) = true ∧ bt (drC box o0 j) (drP box o0 j) = false := by
  have hc := dr_cnt (box := box) (o0 := o0) j (by omega)
  obtain ⟨h1, h2⟩ := dr_ok (box := box) (o0 := o0) (j := j) (by omega)
  have h3 : bt (box &&& (drC box o0 j ^^^ (-1))) (drP box o0 j) = true := h2
  rw [bt_and, bt_not (by omega), Bool.and_eq_true, Bool.not_eq_true'] at h3
  exact ⟨h1, h3.1, h3.2⟩
theorem drC_bt {box o0 : Int32} {k : Nat} : ∀ j, j ≤ cnt box 30 → (bt (drC box o0 j) k = true ↔ ∃ i, i < j ∧ drP box o0 i = k) := by
  intro j
  induction j with
  | zero =>
    intro _
    show bt 0 k = true ↔ _
    rw [bt_zero]
    constructor
    · intro h; cases h
    · rintro ⟨i, hi, _⟩; omega
  | succ j ih =>
    intro h
    have h1 := dr_in (o0 := o0) (show j < cnt box 30 by omega)
    rw [drC_s, bt_or, bt_b1 (by omega), Bool.or_eq_true, ih (by omega), Bool.and_eq_true, decide_eq_true_iff, decide_eq_true_iff]
    constructor
    · rintro (⟨i, hi, e⟩ | ⟨_, e⟩)
      · exact ⟨i, by omega, e⟩
      · exact ⟨j, by omega, e.symm⟩
    · rintro ⟨i, hi, e⟩
      by_cases ei : i = j
      · subst ei; exact Or.inr ⟨by omega, e.symm⟩
      · exact Or.inl ⟨i, by omega, e⟩
theorem dr_inj {box o0 : Int32} {i j : Nat} (h : i < j) (hj : j < cnt box 30) : ¬ drP box o0 i = drP box o0 j := fun e => by
  have h1 := (dr_in (o0 := o0) hj).2.2
  have h2 := (drC_bt (o0 := o0) (k := drP box o0 j) j (by omega)).mpr ⟨i, h, e⟩
  rw [h1] at h2; cases h2

