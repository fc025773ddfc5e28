/-! ===== clash: rows of waits, the least sum, the first row of it ===== -/
/-- the code of a row's first n waits -/
def cdW (w : Nat → Nat) : Nat → Nat
  | 0 => 0
  | n + 1 => cdW w n * 6 + w n
def smW (w : Nat → Nat) : Nat → Nat
  | 0 => 0
  | n + 1 => smW w n + w n
/-- i and k (an earlier one) have a day in common, having waited, and are foes -/
def cfW (d e : Nat → Nat) (F : Nat → Nat → Bool) (w : Nat → Nat) (i k : Nat) : Bool := (decide (d i + w i < d k + w k + e k) && decide (d k + w k < d i + w i + e i)) && F i k
def okW (d e : Nat → Nat) (F : Nat → Nat → Bool) (n : Nat) (w : Nat → Nat) : Prop := ∀ i, i < n → ∀ k, k < i → cfW d e F w i k = false
def rgW (n : Nat) (w : Nat → Nat) : Prop := ∀ i, i < n → w i ≤ 5
/-- what is known of a row x, the least sum so far being L, its first row B -/
def hdW (n : Nat) (L : Option Nat) (B x : Nat → Nat) : Prop := ∃ l, L = some l ∧ (l < smW x n ∨ (l = smW x n ∧ cdW B n ≤ cdW x n))
def bsW (d e : Nat → Nat) (F : Nat → Nat → Bool) (n : Nat) (L : Option Nat) (B : Nat → Nat) : Prop := (∀ x, rgW n x → okW d e F n x → hdW n L B x) ∧ ∀ l, L = some l → rgW n B ∧ okW d e F n B ∧ smW B n = l
theorem cdW_inj {w w' : Nat → Nat} : ∀ n, rgW n w → rgW n w' → cdW w n = cdW w' n → ∀ k, k < n → w k = w' k := by
  intro n
  induction n with
  | zero => intro _ _ _ k hk; exact absurd hk (Nat.not_lt_zero _)
  | succ n ih =>
    intro h h' e k hk
    have e : cdW w n * 6 + w n = cdW w' n * 6 + w' n := e
    have h1 := h n (by omega)
    have h2 := h' n (by omega)
    by_cases hkn : k = n
    · rw [hkn]; omega
    · exact ih (fun i hi => h i (by omega)) (fun i hi => h' i (by omega)) (by omega) k (by omega)
theorem cdW_congr {w w' : Nat → Nat} : ∀ n, (∀ k, k < n → w k = w' k) → cdW w n = cdW w' n ∧ smW w n = smW w' n := by
  intro n
  induction n with
  | zero => intro _; exact ⟨rfl, rfl⟩
  | succ n ih =>
    intro h
    obtain ⟨h1, h2⟩ := ih (fun k hk => h k (by omega))
    have h3 := h n (by omega)
    constructor
    · show cdW w n * 6 + w n = cdW w' n * 6 + w' n
      rw [h1, h3]
    · show smW w n + w n = smW w' n + w' n
      rw [h2, h3]
theorem cdW_lt {w : Nat → Nat} : ∀ n, rgW n w → cdW w n < 6 ^ n := by
  intro n
  induction n with
  | zero => intro _; exact Nat.lt_succ_self 0
  | succ n ih =>
    intro h
    have h1 := ih (fun i hi => h i (by omega))
    have h2 := h n (by omega)
    show cdW w n * 6 + w n < 6 ^ (n + 1)
    rw [Nat.pow_succ]
    omega
theorem okW_congr {d e : Nat → Nat} {F : Nat → Nat → Bool} {n : Nat} {w w' : Nat → Nat} (h : ∀ k, k < n → w k = w' k) (ho : okW d e F n w) : okW d e F n w' := fun i hi k hk => by
  have h1 := ho i hi k hk
  unfold cfW at h1 ⊢
  rw [← h i hi, ← h k (by omega)]
  exact h1
theorem cd_lex {B x : Nat → Nat} {j : Nat} (hp : ∀ i, i < j → B i = x i) (hj : B j < x j) : ∀ m, rgW (j + 1 + m) B → cdW B (j + 1 + m) < cdW x (j + 1 + m) := by
  intro m
  induction m with
  | zero =>
    intro _
    show cdW B j * 6 + B j < cdW x j * 6 + x j
    rw [(cdW_congr j hp).1]
    omega
  | succ m ih =>
    intro h
    have h1 := ih (fun i hi => h i (by omega))
    have h2 := h (j + 1 + m) (by omega)
    show cdW B (j + 1 + m) * 6 + B (j + 1 + m) < cdW x (j + 1 + m) * 6 + x (j + 1 + m)
    omega
theorem smW_mono {x : Nat → Nat} {a : Nat} : ∀ m, smW x a ≤ smW x (a + m) := by
  intro m
  induction m with
  | zero => exact Nat.le_refl _
  | succ m ih => exact Nat.le_trans ih (Nat.le_add_right _ _)
theorem bsW_uniq {d e : Nat → Nat} {F : Nat → Nat → Bool} {n : Nat} {L L' : Option Nat} {B B' : Nat → Nat} (h : bsW d e F n L B) (h' : bsW d e F n L' B') : L = L' ∧ (¬ L = none → ∀ k, k < n → B k = B' k) := by
  cases L with
  | none =>
    cases L' with
    | none => exact ⟨rfl, fun z => absurd rfl z⟩
    | some l' =>
      obtain ⟨r, o, s⟩ := h'.2 l' rfl
      obtain ⟨l, e1, _⟩ := h.1 B' r o
      cases e1
  | some l =>
    obtain ⟨r, o, s⟩ := h.2 l rfl
    cases L' with
    | none =>
      obtain ⟨l2, e1, _⟩ := h'.1 B r o
      cases e1
    | some l' =>
      obtain ⟨r', o', s'⟩ := h'.2 l' rfl
      obtain ⟨l1, e1, h1⟩ := h.1 B' r' o'
      obtain ⟨l2, e2, h2⟩ := h'.1 B r o
      cases e1
      cases e2
      rw [s'] at h1
      rw [s] at h2
      have hl : l = l' := by omega
      refine ⟨by rw [hl], fun _ => cdW_inj n r r' (by omega)⟩
/-! the class's search: at place a, the waits ahead of it w, next is v -/
def lxP (a : Nat) (w : Nat → Nat) (v : Nat) (x : Nat → Nat) : Prop := (∃ j, j < a ∧ (∀ i, i < j → x i = w i) ∧ x j < w j) ∨ ((∀ i, i < a → x i = w i) ∧ x a < v)
def pxP (a : Nat) (w : Nat → Nat) (x : Nat → Nat) : Prop := (∃ j, j < a ∧ (∀ i, i < j → x i = w i) ∧ x j < w j) ∨ ∀ i, i < a → x i = w i
/-- how the search stands -/
def seW (d e : Nat → Nat) (F : Nat → Nat → Bool) (n : Nat) (L : Option Nat) (B : Nat → Nat) (Q : (Nat → Nat) → Prop) : Prop := (∀ x, rgW n x → okW d e F n x → Q x → hdW n L B x) ∧ ∀ l, L = some l → rgW n B ∧ okW d e F n B ∧ smW B n = l ∧ Q B
theorem seW_0 {d e : Nat → Nat} {F : Nat → Nat → Bool} {n : Nat} {w B : Nat → Nat} : seW d e F n none B (lxP 0 w 0) :=
  ⟨fun x _ _ h => by
    rcases h with ⟨j, hj, _⟩ | ⟨_, h⟩
    · exact absurd hj (Nat.not_lt_zero _)
    · exact absurd h (Nat.not_lt_zero _), fun l h => by cases h⟩
theorem seW_im {d e : Nat → Nat} {F : Nat → Nat → Bool} {n : Nat} {L : Option Nat} {B : Nat → Nat} {Q Q' : (Nat → Nat) → Prop} (h : seW d e F n L B Q) (h1 : ∀ x, Q x → Q' x) (h2 : ∀ x, rgW n x → okW d e F n x → Q' x → ¬ Q x → hdW n L B x) : seW d e F n L B Q' := by
  refine ⟨fun x r o q => ?_, fun l hl => ?_⟩
  · by_cases hq : Q x
    · exact h.1 x r o hq
    · exact h2 x r o q hq
  · obtain ⟨a1, a2, a3, a4⟩ := h.2 l hl
    exact ⟨a1, a2, a3, h1 B a4⟩
theorem lx_px {a v : Nat} {w x : Nat → Nat} (h : lxP a w v x) : pxP a w x := by
  rcases h with h | ⟨h, _⟩
  · exact Or.inl h
  · exact Or.inr h
theorem px_not {a v : Nat} {w x : Nat → Nat} (h : pxP a w x) (hn : ¬ lxP a w v x) : (∀ i, i < a → x i = w i) ∧ v ≤ x a := by
  rcases h with h | h
  · exact absurd (Or.inl h) hn
  · exact ⟨h, Nat.not_lt.mp (fun z => hn (Or.inr ⟨h, z⟩))⟩
/-- back a place: all that was to be looked at behind x a = v on is handled -/
theorem seW_back {d e : Nat → Nat} {F : Nat → Nat → Bool} {n a v : Nat} {L : Option Nat} {B w : Nat → Nat} (h : seW d e F n L B (lxP a w v)) (hp : ∀ x, rgW n x → okW d e F n x → (∀ i, i < a → x i = w i) → v ≤ x a → hdW n L B x) : seW d e F n L B (pxP a w) :=
  seW_im h (fun _ => lx_px) (fun x r o q hq => hp x r o (px_not q hq).1 (px_not q hq).2)
theorem px_lx {a : Nat} {w x : Nat → Nat} (h : pxP (a + 1) w x) : lxP a w (w a + 1) x := by
  rcases h with ⟨j, hj, h1, h2⟩ | h
  · by_cases e : j = a
    · subst e; exact Or.inr ⟨h1, by omega⟩
    · exact Or.inl ⟨j, by omega, h1, h2⟩
  · exact Or.inr ⟨fun i hi => h i (by omega), by rw [h a (by omega)]; omega⟩
theorem lx_px' {a : Nat} {w x : Nat → Nat} (h : lxP a w (w a + 1) x) : pxP (a + 1) w x := by
  rcases h with ⟨j, hj, h1, h2⟩ | ⟨h1, h2⟩
  · exact Or.inl ⟨j, by omega, h1, h2⟩
  · by_cases e : x a = w a
    · exact Or.inr (fun i hi => if e9 : i = a then (by rw [e9]; exact e) else h1 i (by omega))
    · exact Or.inl ⟨a, by omega, h1, by omega⟩
theorem seW_up {d e : Nat → Nat} {F : Nat → Nat → Bool} {n a : Nat} {L : Option Nat} {B w : Nat → Nat} (h : seW d e F n L B (pxP (a + 1) w)) : seW d e F n L B (lxP a w (w a + 1)) :=
  seW_im h (fun _ => px_lx) (fun x _ _ q hq => absurd (lx_px' q) hq)
theorem seW_all {d e : Nat → Nat} {F : Nat → Nat → Bool} {n : Nat} {L : Option Nat} {B w : Nat → Nat} (h : seW d e F n L B (pxP 0 w)) : bsW d e F n L B :=
  ⟨fun x r o => h.1 x r o (Or.inr (fun i hi => absurd hi (Nat.not_lt_zero _))), fun l hl => by
    obtain ⟨a1, a2, a3, _⟩ := h.2 l hl
    exact ⟨a1, a2, a3⟩⟩
/-- the sum is no less already -/
theorem hd_sum {d e : Nat → Nat} {F : Nat → Nat → Bool} {n a v l : Nat} {B w x : Nat → Nat} (h : seW d e F n (some l) B (lxP a w v)) (ha : a < n) (hs : l ≤ smW w a + v) (r : rgW n x) (hx : ∀ i, i < a → x i = w i) (hv : v ≤ x a) : hdW n (some l) B x := by
  obtain ⟨b1, b2, b3, b4⟩ := h.2 l rfl
  have h1 := smW_mono (x := x) (a := a + 1) (n - (a + 1))
  rw [show a + 1 + (n - (a + 1)) = n by omega] at h1
  have h2 : smW x (a + 1) = smW w a + x a := by
    show smW x a + x a = _
    rw [(cdW_congr a hx).2]
  refine ⟨l, rfl, ?_⟩
  have h3 : cdW B n < cdW x n := by
    rcases b4 with ⟨j, hj, c1, c2⟩ | ⟨c1, c2⟩
    · have h9 := cd_lex (B := B) (x := x) (j := j) (fun i hi => (c1 i hi).trans (hx i (by omega)).symm) (by rw [hx j hj]; exact c2) (n - (j + 1)) (by rw [show j + 1 + (n - (j + 1)) = n by omega]; exact b1)
      rw [show j + 1 + (n - (j + 1)) = n by omega] at h9
      exact h9
    · have h9 := cd_lex (B := B) (x := x) (j := a) (fun i hi => (c1 i hi).trans (hx i hi).symm) (by omega) (n - (a + 1)) (by rw [show a + 1 + (n - (a + 1)) = n by omega]; exact b1)
      rw [show a + 1 + (n - (a + 1)) = n by omega] at h9
      exact h9
  omega
/-- one without foes has no cause to wait -/
theorem smW_up0 {x : Nat → Nat} {a : Nat} : ∀ n, a < n → smW (upN x a 0) n + x a = smW x n := by
  intro n
  induction n with
  | zero => intro h; exact absurd h (Nat.not_lt_zero _)
  | succ n ih =>
    intro h
    show smW (upN x a 0) n + upN x a 0 n + x a = smW x n + x n
    by_cases e : n = a
    · subst e
      rw [upN_s, (cdW_congr (w := upN x n 0) (w' := x) n (fun k hk => upN_o (by omega))).2, Nat.add_zero]
    · rw [upN_o e]
      have h9 := ih (by omega)
      omega
theorem hd_free {d e : Nat → Nat} {F : Nat → Nat → Bool} {n a v : Nat} {L : Option Nat} {B w x : Nat → Nat} (h : seW d e F n L B (lxP a w v)) (ha : a < n) (hv1 : 1 ≤ v) (hf : ∀ k, k < n → (k < a → F a k = false) ∧ (a < k → F k a = false)) (r : rgW n x) (o : okW d e F n x) (hx : ∀ i, i < a → x i = w i) (hv : v ≤ x a) : hdW n L B x := by
  have r' : rgW n (upN x a 0) := fun i hi => by
    by_cases e : i = a
    · rw [e, upN_s]; omega
    · rw [upN_o e]; exact r i hi
  have o' : okW d e F n (upN x a 0) := fun i hi k hk => by
    by_cases e1 : i = a
    · unfold cfW
      rw [e1, (hf k (by omega)).1 (by omega), Bool.and_false]
    · by_cases e2 : k = a
      · unfold cfW
        rw [e2, (hf i hi).2 (by omega), Bool.and_false]
      · have h9 := o i hi k hk
        unfold cfW at h9 ⊢
        rw [upN_o e1, upN_o e2]
        exact h9
  obtain ⟨l, e1, h1⟩ := h.1 (upN x a 0) r' o' (Or.inr ⟨fun i hi => (upN_o (by omega)).trans (hx i hi), by rw [upN_s]; omega⟩)
  have h2 := smW_up0 (x := x) (a := a) n ha
  exact ⟨l, e1, Or.inl (by omega)⟩
/-- v does not fit -/
theorem seW_unfit {d e : Nat → Nat} {F : Nat → Nat → Bool} {n a v k : Nat} {L : Option Nat} {B w : Nat → Nat} (h : seW d e F n L B (lxP a w v)) (ha : a < n) (hk : k < a) (hc : cfW d e F (upN w a v) a k = true) : seW d e F n L B (lxP a w (v + 1)) := by
  refine seW_im h (fun x q => ?_) (fun x r o q hq => ?_)
  · rcases q with q | ⟨q1, q2⟩
    · exact Or.inl q
    · exact Or.inr ⟨q1, by omega⟩
  · exfalso
    rcases q with q | ⟨q1, q2⟩
    · exact hq (Or.inl q)
    · have e1 : x a = v := by
        have h9 : ¬ x a < v := fun z => hq (Or.inr ⟨q1, z⟩)
        omega
      have h9 := o a ha k hk
      unfold cfW at h9 hc
      rw [upN_s, upN_o (by omega)] at hc
      rw [e1, q1 k hk] at h9
      rw [h9] at hc
      cases hc
/-- v fits: one place on -/
theorem lx_dn {a v : Nat} {w x : Nat → Nat} : lxP (a + 1) (upN w a v) 0 x ↔ lxP a w v x := by
  constructor
  · rintro (⟨j, hj, h1, h2⟩ | ⟨_, h2⟩)
    · by_cases e : j = a
      · subst e
        rw [upN_s] at h2
        exact Or.inr ⟨fun i hi => (h1 i hi).trans (upN_o (by omega)), h2⟩
      · rw [upN_o e] at h2
        exact Or.inl ⟨j, by omega, fun i hi => (h1 i hi).trans (upN_o (by omega)), h2⟩
    · exact absurd h2 (Nat.not_lt_zero _)
  · rintro (⟨j, hj, h1, h2⟩ | ⟨h1, h2⟩)
    · exact Or.inl ⟨j, by omega, fun i hi => (h1 i hi).trans (upN_o (by omega)).symm, by rw [upN_o (by omega)]; exact h2⟩
    · exact Or.inl ⟨a, by omega, fun i hi => (h1 i hi).trans (upN_o (by omega)).symm, by rw [upN_s]; exact h2⟩
theorem seW_dn {d e : Nat → Nat} {F : Nat → Nat → Bool} {n a v : Nat} {L : Option Nat} {B w : Nat → Nat} (h : seW d e F n L B (lxP a w v)) : seW d e F n L B (lxP (a + 1) (upN w a v) 0) :=
  seW_im h (fun _ => lx_dn.mpr) (fun x _ _ q hq => absurd (lx_dn.mp q) hq)
theorem okW_up {d e : Nat → Nat} {F : Nat → Nat → Bool} {a v : Nat} {w : Nat → Nat} (h : okW d e F a w) (hf : ∀ k, k < a → cfW d e F (upN w a v) a k = false) : okW d e F (a + 1) (upN w a v) := fun i hi k hk => by
  by_cases e : i = a
  · rw [e]; exact hf k (by omega)
  · have h9 := h i (by omega) k hk
    unfold cfW at h9 ⊢
    rw [upN_o e, upN_o (by omega)]
    exact h9
/-- v fits at the last place: a new least sum -/
theorem seW_new {d e : Nat → Nat} {F : Nat → Nat → Bool} {a v : Nat} {L : Option Nat} {B B' w : Nat → Nat} (h : seW d e F (a + 1) L B (lxP a w v)) (hw : ∀ i, i < a → w i ≤ 5) (hv : v ≤ 5) (ho : okW d e F a w) (hf : ∀ k, k < a → cfW d e F (upN w a v) a k = false) (hs : ∀ l, L = some l → smW w a + v < l) (hB : ∀ i, i < a + 1 → B' i = upN w a v i) : seW d e F (a + 1) (some (smW w a + v)) B' (lxP a w (v + 1)) := by
  have e1 := cdW_congr (w := B') (w' := upN w a v) (a + 1) hB
  have e2 : smW (upN w a v) (a + 1) = smW w a + v := by
    show smW (upN w a v) a + upN w a v a = _
    rw [upN_s, (cdW_congr (w := upN w a v) (w' := w) a (fun k hk => upN_o (by omega))).2]
  refine ⟨fun x r o q => ?_, fun l hl => ?_⟩
  · by_cases hq : lxP a w v x
    · obtain ⟨l, hl, h1⟩ := h.1 x r o hq
      have h2 := hs l hl
      exact ⟨_, rfl, Or.inl (by omega)⟩
    · rcases q with q | ⟨q1, q2⟩
      · exact absurd (Or.inl q) hq
      · have hx : x a = v := by
          have h9 : ¬ x a < v := fun z => hq (Or.inr ⟨q1, z⟩)
          omega
        have e3 := cdW_congr (w := x) (w' := upN w a v) (a + 1) (fun i hi => by
          by_cases e : i = a
          · rw [e, upN_s]; exact hx
          · rw [upN_o e]; exact q1 i (by omega))
        exact ⟨_, rfl, Or.inr ⟨by rw [e3.2, e2], by rw [e1.1, e3.1]; exact Nat.le_refl _⟩⟩
  · cases hl
    refine ⟨fun i hi => ?_, okW_congr (fun k hk => (hB k hk).symm) (okW_up ho hf), by rw [e1.2, e2], Or.inr ⟨fun i hi => (hB i (by omega)).trans (upN_o (by omega)), ?_⟩⟩
    · rw [hB i hi]
      by_cases e : i = a
      · rw [e, upN_s]; exact hv
      · rw [upN_o e]; exact hw i (by omega)
    · rw [hB a (by omega), upN_s]; omega
/-! how many steps the search takes -/
def wt7 : Nat → Nat
  | 0 => 16807
  | 1 => 2401
  | 2 => 343
  | 3 => 49
  | 4 => 7
  | _ => 1
def pq7 (w : Nat → Nat) : Nat → Nat
  | 0 => 0
  | k + 1 => pq7 w k + w k * wt7 k
def ms7 (a : Nat) (w : Nat → Nat) (v : Nat) : Nat := 7 * (pq7 w a + v * wt7 a) + a
theorem wt7_s {a : Nat} (h : a < 5) : wt7 a = 7 * wt7 (a + 1) := by
  rcases (show a = 0 ∨ a = 1 ∨ a = 2 ∨ a = 3 ∨ a = 4 by omega) with e | e | e | e | e <;> subst e <;> rfl
theorem wt7_p {a : Nat} : 1 ≤ wt7 a := by
  unfold wt7
  split <;> omega
theorem pq7_congr {w w' : Nat → Nat} : ∀ a, (∀ i, i < a → w i = w' i) → pq7 w a = pq7 w' a := by
  intro a
  induction a with
  | zero => intro _; rfl
  | succ a ih =>
    intro h
    show pq7 w a + w a * wt7 a = pq7 w' a + w' a * wt7 a
    rw [ih (fun i hi => h i (by omega)), h a (by omega)]
theorem pq7_b {w : Nat → Nat} : ∀ a, a < 6 → (∀ i, i < a → w i ≤ 6) → pq7 w a + 7 * wt7 a ≤ 117649 := by
  intro a
  induction a with
  | zero => intro _ _; show 0 + 7 * 16807 ≤ 117649; omega
  | succ a ih =>
    intro h hw
    have h1 := ih (by omega) (fun i hi => hw i (by omega))
    have h2 := hw a (by omega)
    have h3 := wt7_s (a := a) (by omega)
    show pq7 w a + w a * wt7 a + 7 * wt7 (a + 1) ≤ 117649
    have h4 : w a * wt7 a ≤ 6 * wt7 a := Nat.mul_le_mul_right _ h2
    omega
theorem ms7_b {a v : Nat} {w : Nat → Nat} (ha : a < 6) (hw : ∀ i, i < a → w i ≤ 6) (hv : v ≤ 6) : ms7 a w v < 900000 := by
  have h1 := pq7_b a ha hw
  have h2 : v * wt7 a ≤ 6 * wt7 a := Nat.mul_le_mul_right _ hv
  unfold ms7
  omega
theorem ms7_v {a v : Nat} {w : Nat → Nat} : ms7 a w v + 1 ≤ ms7 a w (v + 1) := by
  have h := wt7_p (a := a)
  unfold ms7
  rw [Nat.add_mul, Nat.one_mul]
  omega
theorem ms7_dn {a v : Nat} {w : Nat → Nat} : ms7 a w v + 1 ≤ ms7 (a + 1) (upN w a v) 0 := by
  unfold ms7
  show 7 * (pq7 w a + v * wt7 a) + a + 1 ≤ 7 * (pq7 (upN w a v) a + upN w a v a * wt7 a + 0 * wt7 (a + 1)) + (a + 1)
  rw [upN_s, pq7_congr (w := upN w a v) (w' := w) a (fun i hi => upN_o (by omega)), Nat.zero_mul]
  omega
theorem ms7_up {a v : Nat} {w : Nat → Nat} (ha : a + 1 < 6) (hv : v ≤ 6) : ms7 (a + 1) w v + 1 ≤ ms7 a w (w a + 1) := by
  have h1 := wt7_s (a := a) (by omega)
  have h2 := wt7_p (a := a + 1)
  have h3 : v * wt7 (a + 1) ≤ 6 * wt7 (a + 1) := Nat.mul_le_mul_right _ hv
  unfold ms7
  show 7 * (pq7 w a + w a * wt7 a + v * wt7 (a + 1)) + (a + 1) + 1 ≤ 7 * (pq7 w a + (w a + 1) * wt7 a) + a
  rw [Nat.add_mul (w a) 1, Nat.one_mul]
  omega
/-! the reference's codes -/
def cdG (r : Nat) (w : Nat → Nat) (k : Nat) : Nat → Nat
  | 0 => r
  | m + 1 => cdG r w k m * 6 + w (k + m)
def smG (w : Nat → Nat) (k : Nat) : Nat → Nat
  | 0 => 0
  | m + 1 => smG w k m + w (k + m)
theorem cdG_f {r k : Nat} {w : Nat → Nat} : ∀ m, cdG r w k (m + 1) = cdG (r * 6 + w k) w (k + 1) m ∧ smG w k (m + 1) = w k + smG w (k + 1) m := by
  intro m
  induction m with
  | zero => exact ⟨rfl, by show 0 + w (k + 0) = w k + 0; rw [Nat.zero_add]; rfl⟩
  | succ m ih =>
    constructor
    · show cdG r w k (m + 1) * 6 + w (k + (m + 1)) = cdG (r * 6 + w k) w (k + 1) m * 6 + w (k + 1 + m)
      rw [ih.1, show k + (m + 1) = k + 1 + m by omega]
    · show smG w k (m + 1) + w (k + (m + 1)) = w k + (smG w (k + 1) m + w (k + 1 + m))
      rw [ih.2, show k + (m + 1) = k + 1 + m by omega]
      omega
theorem cdG_congr {r k : Nat} {w w' : Nat → Nat} : ∀ m, (∀ i, k ≤ i → i < k + m → w i = w' i) → cdG r w k m = cdG r w' k m ∧ smG w k m = smG w' k m := by
  intro m
  induction m with
  | zero => intro _; exact ⟨rfl, rfl⟩
  | succ m ih =>
    intro h
    obtain ⟨h1, h2⟩ := ih (fun i a b => h i a (by omega))
    have h3 := h (k + m) (by omega) (by omega)
    constructor
    · show cdG r w k m * 6 + w (k + m) = cdG r w' k m * 6 + w' (k + m)
      rw [h1, h3]
    · show smG w k m + w (k + m) = smG w' k m + w' (k + m)
      rw [h2, h3]
theorem cdG_0 {w : Nat → Nat} : ∀ n, cdG 0 w 0 n = cdW w n ∧ smG w 0 n = smW w n := by
  intro n
  induction n with
  | zero => exact ⟨rfl, rfl⟩
  | succ n ih =>
    constructor
    · show cdG 0 w 0 n * 6 + w (0 + n) = cdW w n * 6 + w n
      rw [ih.1, Nat.zero_add]
    · show smG w 0 n + w (0 + n) = smW w n + w n
      rw [ih.2, Nat.zero_add]
/-- one digit more, from the back -/
theorem cdG_st {r k m c s : Nat} {w : Nat → Nat} (h : cdG r w (k + 1) m = c) (hs : smG w (k + 1) m = s) : cdG (r / 6) (upN w k (r % 6)) k (m + 1) = c ∧ smG (upN w k (r % 6)) k (m + 1) = s + r % 6 := by
  obtain ⟨h1, h2⟩ := cdG_f (r := r / 6) (k := k) (w := upN w k (r % 6)) m
  obtain ⟨h3, h4⟩ := cdG_congr (r := r / 6 * 6 + r % 6) (k := k + 1) (w := upN w k (r % 6)) (w' := w) m (fun i a b => upN_o (by omega))
  rw [upN_s] at h1 h2
  constructor
  · rw [h1, h3, show r / 6 * 6 + r % 6 = r by omega]; exact h
  · rw [h2, h4, hs]; omega
/-- all codes below c are looked at -/
def seC (d e : Nat → Nat) (F : Nat → Nat → Bool) (n : Nat) (L : Option Nat) (B : Nat → Nat) (c : Nat) : Prop := seW d e F n L B (fun x => cdW x n < c)
theorem seC_0 {d e : Nat → Nat} {F : Nat → Nat → Bool} {n : Nat} {B : Nat → Nat} : seC d e F n none B 0 := ⟨fun x _ _ h => absurd h (Nat.not_lt_zero _), fun l h => by cases h⟩
theorem seC_n {d e : Nat → Nat} {F : Nat → Nat → Bool} {n c : Nat} {L : Option Nat} {B w : Nat → Nat} (h : seC d e F n L B c) (hw : rgW n w) (hc : cdW w n = c) (hx : (∃ l, L = some l ∧ l ≤ smW w n) ∨ ¬ okW d e F n w) : seC d e F n L B (c + 1) := by
  refine seW_im h (fun x q => Nat.lt_succ_of_lt q) (fun x r o q hq => ?_)
  have q : cdW x n < c + 1 := q
  have hq : ¬ cdW x n < c := hq
  have e := cdW_inj n r hw (by omega)
  rcases hx with ⟨l, hl, h1⟩ | hx
  · obtain ⟨_, _, _, b4⟩ := h.2 l hl
    have b4 : cdW B n < c := b4
    have e2 := (cdW_congr (w := x) (w' := w) n e).2
    exact ⟨l, hl, by omega⟩
  · exact absurd (okW_congr e o) hx
theorem seC_y {d e : Nat → Nat} {F : Nat → Nat → Bool} {n c : Nat} {L : Option Nat} {B B' w : Nat → Nat} (h : seC d e F n L B c) (hw : rgW n w) (hc : cdW w n = c) (ho : okW d e F n w) (hs : ∀ l, L = some l → smW w n < l) (hB : ∀ i, i < n → B' i = w i) : seC d e F n (some (smW w n)) B' (c + 1) := by
  have e1 := cdW_congr (w := B') (w' := w) n hB
  refine ⟨fun x r o q => ?_, fun l hl => ?_⟩
  · have q : cdW x n < c + 1 := q
    by_cases hq : cdW x n < c
    · obtain ⟨l, hl, h1⟩ := h.1 x r o hq
      have h2 := hs l hl
      exact ⟨_, rfl, Or.inl (by omega)⟩
    · have e3 := cdW_congr (w := x) (w' := w) n (cdW_inj n r hw (by omega))
      exact ⟨_, rfl, Or.inr ⟨e3.2.symm, by rw [e1.1, e3.1]; exact Nat.le_refl _⟩⟩
  · cases hl
    exact ⟨fun i hi => by rw [hB i hi]; exact hw i hi, okW_congr (fun k hk => (hB k hk).symm) ho, e1.2, by show cdW B' n < c + 1; rw [e1.1]; omega⟩
theorem seC_all {d e : Nat → Nat} {F : Nat → Nat → Bool} {n : Nat} {L : Option Nat} {B : Nat → Nat} (h : seC d e F n L B (6 ^ n)) : bsW d e F n L B :=
  ⟨fun x r o => h.1 x r o (cdW_lt n r), fun l hl => by
    obtain ⟨a1, a2, a3, _⟩ := h.2 l hl
    exact ⟨a1, a2, a3⟩⟩
/-! ===== clash: foes, the trials of a set ===== -/
def stW (T : Nat → Nat → Int32) (t o : Nat) : Bool := decide (¬ T t 5 = -1) && decide (T t 5 = T o 5)
theorem stW_iff {T : Nat → Nat → Int32} {t o : Nat} : stW T t o = true ↔ (¬ T t 5 = -1 ∧ T t 5 = T o 5) := by
  unfold stW
  rw [Bool.and_eq_true, decide_eq_true_iff, decide_eq_true_iff]
def frB (T : Nat → Nat → Int32) (t o s : Nat) : Bool := decide (¬ T t s = -1) && (decide (T t s = T o 3) || decide (T t s = T o 4))
def mtB (T : Nat → Nat → Int32) (t o : Nat) : Bool := (frB T t o 3 || frB T t o 4) || stW T t o
theorem sf_y {T : Nat → Nat → Int32} {t o i : Nat} (hi : i ≤ 1) (h : frB T t o (i + 3) = true) : (frB T t o 3 || frB T t o 4) = true := by
  rcases (show i = 0 ∨ i = 1 by omega) with e | e
  · subst e
    have h : frB T t o 3 = true := h
    rw [h]; rfl
  · subst e
    have h : frB T t o 4 = true := h
    rw [h, Bool.or_true]
theorem sf_n {T : Nat → Nat → Int32} {t o i : Nat} (hi : ¬ i ≤ 1) (h : ∀ j, j < i → j ≤ 1 → frB T t o (j + 3) = false) : ¬ (frB T t o 3 || frB T t o 4) = true := by
  have h0 : frB T t o 3 = false := h 0 (by omega) (by omega)
  have h1 : frB T t o 4 = false := h 1 (by omega) (by omega)
  rw [h0, h1]
  decide
theorem fr_s {T : Nat → Nat → Int32} {t o i : Nat} (h : ∀ j, j < i → j ≤ 1 → frB T t o (j + 3) = false) (hn : frB T t o (i + 3) = false) : ∀ j, j < i + 1 → j ≤ 1 → frB T t o (j + 3) = false := fun j hj h1 => by
  by_cases e : j = i
  · rw [e]; exact hn
  · exact h j (by omega) h1
def mtX (T : Nat → Nat → Int32) (t o : Nat) : Nat → Bool
  | 0 => stW T t o
  | c + 1 => mtX T t o c || (decide (¬ T t (c / 2 + 3) = -1) && decide (T t (c / 2 + 3) = T o (c % 2 + 3)))
theorem mtX_4 {T : Nat → Nat → Int32} {t o : Nat} : mtX T t o 4 = mtB T t o := by
  show ((((stW T t o || (decide (¬ T t 3 = -1) && decide (T t 3 = T o 3))) || (decide (¬ T t 3 = -1) && decide (T t 3 = T o 4))) || (decide (¬ T t 4 = -1) && decide (T t 4 = T o 3))) || (decide (¬ T t 4 = -1) && decide (T t 4 = T o 4))) = _
  unfold mtB frB
  generalize stW T t o = a
  generalize decide (¬ T t 3 = -1) = b
  generalize decide (T t 3 = T o 3) = c
  generalize decide (T t 3 = T o 4) = d
  generalize decide (¬ T t 4 = -1) = e
  generalize decide (T t 4 = T o 3) = f
  generalize decide (T t 4 = T o 4) = g
  cases a <;> cases b <;> cases c <;> cases d <;> cases e <;> cases f <;> cases g <;> rfl
theorem mtX_at {T : Nat → Nat → Int32} {t o i k : Nat} (hk : k < 2) : mtX T t o (2 * i + k + 1) = (mtX T t o (2 * i + k) || (decide (¬ T t (i + 3) = -1) && decide (T t (i + 3) = T o (k + 3)))) := by
  show (mtX T t o (2 * i + k) || (decide (¬ T t ((2 * i + k) / 2 + 3) = -1) && decide (T t ((2 * i + k) / 2 + 3) = T o ((2 * i + k) % 2 + 3)))) = _
  rw [show (2 * i + k) / 2 = i by omega, show (2 * i + k) % 2 = k by omega]
theorem mt_congr {T T' : Nat → Nat → Int32} {t o : Nat} (h : ∀ c, c < 10 → T t c = T' t c ∧ T o c = T' o c) : mtB T t o = mtB T' t o := by
  unfold mtB frB stW
  rw [(h 3 (by omega)).1, (h 4 (by omega)).1, (h 5 (by omega)).1, (h 3 (by omega)).2, (h 4 (by omega)).2, (h 5 (by omega)).2]
def foS (F : Nat → Nat → Bool) (i j : Nat) : Bool := if j < i then F i j else if i < j then F j i else false
/-- foes as far as they are looked at -/
def foV (F : Nat → Nat → Bool) (m i2 i3 : Nat) (o : Nat → Int32) : Prop := ∀ i, i < m → ∀ j, bt (o i) j = (decide ((i < i2 ∧ j < i2) ∨ (i = i2 ∧ j < i3) ∨ (j = i2 ∧ i < i3)) && foS F i j)
theorem foV_0 {F : Nat → Nat → Bool} {m : Nat} {o : Nat → Int32} (h : ∀ i, i < m → o i = 0) : foV F m 0 0 o := fun i hi j => by
  rw [h i hi, bt_zero, decide_eq_false (by omega), Bool.false_and]
theorem foV_n {F : Nat → Nat → Bool} {m i2 i3 : Nat} {o : Nat → Int32} (h : foV F m i2 i3 o) (h3 : i3 < i2) (hf : ¬ F i2 i3 = true) : foV F m i2 (i3 + 1) o := fun i hi j => by
  rw [h i hi j]
  have hf : F i2 i3 = false := eq_false_of_ne_true hf
  by_cases e1 : i = i2 ∧ j = i3
  · have e : foS F i j = false := by
      unfold foS
      rw [if_pos (by omega), e1.1, e1.2, hf]
    rw [e, Bool.and_false, Bool.and_false]
  · by_cases e2 : j = i2 ∧ i = i3
    · have e : foS F i j = false := by
        unfold foS
        rw [if_neg (by omega), if_pos (by omega), e2.1, e2.2, hf]
      rw [e, Bool.and_false, Bool.and_false]
    · rw [decide_eq_decide.mpr (show ((i < i2 ∧ j < i2) ∨ (i = i2 ∧ j < i3) ∨ (j = i2 ∧ i < i3)) ↔ ((i < i2 ∧ j < i2) ∨ (i = i2 ∧ j < i3 + 1) ∨ (j = i2 ∧ i < i3 + 1)) by omega)]
theorem foV_y {F : Nat → Nat → Bool} {m i2 i3 : Nat} {o : Nat → Int32} (h : foV F m i2 i3 o) (h3 : i3 < i2) (h2 : i2 < m) (hm : m ≤ 6) (hf : F i2 i3 = true) : foV F m i2 (i3 + 1) (upd (upd o i2 (o i2 ||| b1 i3)) i3 (o i3 ||| b1 i2)) := fun i hi j => by
  by_cases e1 : i = i3
  · rw [e1, pk_us, bt_or, bt_b1 (by omega), h i3 (by omega) j]
    by_cases e2 : j = i2
    · have e : foS F i3 j = true := by
        unfold foS
        rw [e2, if_neg (by omega), if_pos h3, hf]
      rw [e, decide_eq_true (show j < 32 by omega), decide_eq_true e2, decide_eq_true (show (i3 < i2 ∧ j < i2) ∨ (i3 = i2 ∧ j < i3 + 1) ∨ (j = i2 ∧ i3 < i3 + 1) by omega)]
      simp
    · rw [decide_eq_false e2, Bool.and_false, Bool.or_false, decide_eq_decide.mpr (show ((i3 < i2 ∧ j < i2) ∨ (i3 = i2 ∧ j < i3) ∨ (j = i2 ∧ i3 < i3)) ↔ ((i3 < i2 ∧ j < i2) ∨ (i3 = i2 ∧ j < i3 + 1) ∨ (j = i2 ∧ i3 < i3 + 1)) by omega)]
  · rw [pk_un e1]
    by_cases e2 : i = i2
    · rw [e2, pk_us, bt_or, bt_b1 (by omega), h i2 (by omega) j]
      by_cases e3 : j = i3
      · have e : foS F i2 j = true := by
          unfold foS
          rw [e3, if_pos h3, hf]
        rw [e, decide_eq_true (show j < 32 by omega), decide_eq_true e3, decide_eq_true (show (i2 < i2 ∧ j < i2) ∨ (i2 = i2 ∧ j < i3 + 1) ∨ (j = i2 ∧ i2 < i3 + 1) by omega)]
        simp
      · rw [decide_eq_false e3, Bool.and_false, Bool.or_false, decide_eq_decide.mpr (show ((i2 < i2 ∧ j < i2) ∨ (i2 = i2 ∧ j < i3) ∨ (j = i2 ∧ i2 < i3)) ↔ ((i2 < i2 ∧ j < i2) ∨ (i2 = i2 ∧ j < i3 + 1) ∨ (j = i2 ∧ i2 < i3 + 1)) by omega)]
    · rw [pk_un e2, h i hi j, decide_eq_decide.mpr (show ((i < i2 ∧ j < i2) ∨ (i = i2 ∧ j < i3) ∨ (j = i2 ∧ i < i3)) ↔ ((i < i2 ∧ j < i2) ∨ (i = i2 ∧ j < i3 + 1) ∨ (j = i2 ∧ i < i3 + 1)) by omega)]
theorem foV_s {F : Nat → Nat → Bool} {m i2 : Nat} {o : Nat → Int32} (h : foV F m i2 i2 o) : foV F m (i2 + 1) 0 o := fun i hi j => by
  rw [h i hi j]
  by_cases e : i = i2 ∧ j = i2
  · have e9 : foS F i j = false := by
      unfold foS
      rw [if_neg (by omega), if_neg (by omega)]
    rw [e9, Bool.and_false, Bool.and_false]
  · rw [decide_eq_decide.mpr (show ((i < i2 ∧ j < i2) ∨ (i = i2 ∧ j < i2) ∨ (j = i2 ∧ i < i2)) ↔ ((i < i2 + 1 ∧ j < i2 + 1) ∨ (i = i2 + 1 ∧ j < 0) ∨ (j = i2 + 1 ∧ i < 0)) by omega)]
theorem foV_b {F : Nat → Nat → Bool} {m i j : Nat} {o : Nat → Int32} (h : foV F m m 0 o) (hi : i < m) (hj : j < i) : bt (o i) j = F i j := by
  rw [h i hi j, decide_eq_true (by omega), Bool.true_and]
  unfold foS
  rw [if_pos hj]
theorem foV_z {F : Nat → Nat → Bool} {m i : Nat} {o : Nat → Int32} (h : foV F m m 0 o) (hi : i < m) (hz : o i = 0) : ∀ k, k < m → (k < i → F i k = false) ∧ (i < k → F k i = false) := fun k hk => by
  have h1 := h i hi k
  rw [hz, bt_zero, decide_eq_true (by omega), Bool.true_and] at h1
  unfold foS at h1
  constructor
  · intro h2; rw [if_pos h2] at h1; exact h1.symm
  · intro h2; rw [if_neg (by omega), if_pos h2] at h1; exact h1.symm
/-! the trials of a set -/
theorem cnt_st {x : Int32} {i : Nat} : ∀ d, cnt x (i + d) ≤ cnt x i → lsB x (i + d) = lsB x i := by
  intro d
  induction d with
  | zero => intro _; rfl
  | succ d ih =>
    intro h
    have h : cnt x (i + d) + (if bt x (i + d) = true then 1 else 0) ≤ cnt x i := h
    have h1 := cnt_mono (x := x) (i := i) d
    by_cases hb : bt x (i + d) = true
    · rw [if_pos hb] at h; omega
    · rw [if_neg hb] at h
      show lsB x (i + d) ++ (if bt x (i + d) = true then [i + d] else []) = _
      rw [if_neg hb, List.append_nil]
      exact ih (by omega)
def whT (x : Int32) (nt k : Nat) : Nat := (lsB x nt).getD k 0
theorem whT_lt {x : Int32} {nt k : Nat} (h : k < cnt x nt) : whT x nt k < nt ∧ bt x (whT x nt k) = true := by
  have hl : k < (lsB x nt).length := by rw [lsB_len]; exact h
  have e : whT x nt k = (lsB x nt)[k] := by
    unfold whT
    rw [List.getD_eq_getElem?_getD, List.getElem?_eq_getElem hl]; rfl
  rw [e]
  exact (lsB_mem nt).mp (List.getElem_mem hl)
theorem whT_at {x : Int32} {nt t : Nat} (h : t < nt) (hb : bt x t = true) : whT x nt (cnt x t) = t ∧ cnt x t < cnt x nt := by
  have h1 := nthB_at nt h hb
  constructor
  · unfold whT
    rw [List.getD_eq_getElem?_getD, h1]; rfl
  · have h2 := (List.getElem?_eq_some_iff.mp h1).1
    rw [lsB_len] at h2
    exact h2
theorem whT_inj {x : Int32} {nt k t : Nat} (h : k < cnt x nt) (e : whT x nt k = t) : k = cnt x t := by
  rw [← e]
  exact (cnt_nth nt h).symm
/-! ===== clash: the class's search, its state ===== -/
def seS (d e : Nat → Nat) (F : Nat → Nat → Bool) (n : Nat) (L : Option Nat) (B : Nat → Nat) (a : Nat) (w : Nat → Nat) (v : Nat) (f : Nat → Int32) : Prop := a < n ∧ seW d e F n L B (lxP a w v) ∧ okW d e F a w ∧ (∀ i, i < a → w i ≤ 5 ∧ f i = nI (w i)) ∧ f a = nI v - 1 ∧ v ≤ 6
/-- where the search stands: through, or at a place -/
def seT (d e : Nat → Nat) (F : Nat → Nat → Bool) (n : Nat) (L : Option Nat) (B : Nat → Nat) (a1 : Nat) (w : Nat → Nat) (v : Nat) (f : Nat → Int32) (i : Nat) : Prop := (bsW d e F n L B ∧ (a1 = 0 ∨ n = 0) ∧ a1 ≤ 1) ∨ (∃ a, a1 = a + 1 ∧ seS d e F n L B a w v f ∧ i ≤ ms7 a w v)
theorem bsW_0 {d e : Nat → Nat} {F : Nat → Nat → Bool} {n : Nat} {B : Nat → Nat} (h : n = 0) : bsW d e F n (some 0) B := by
  subst h
  exact ⟨fun x _ _ => ⟨0, rfl, Or.inr ⟨rfl, Nat.le_refl _⟩⟩, fun l hl => by
    cases hl
    exact ⟨fun i hi => absurd hi (Nat.not_lt_zero _), fun i hi => absurd hi (Nat.not_lt_zero _), rfl⟩⟩
section SES
variable {d e : Nat → Nat} {F : Nat → Nat → Bool} {n a v i : Nat} {L : Option Nat} {B w : Nat → Nat} {f : Nat → Int32}
theorem seT_0 (hn : ¬ n = 0) (hf : f 0 = nI 0 - 1) : seT d e F n none B 1 w 0 f 0 :=
  Or.inr ⟨0, rfl, ⟨by omega, seW_0, fun j hj => absurd hj (Nat.not_lt_zero _), fun j hj => absurd hj (Nat.not_lt_zero _), hf, by omega⟩, Nat.zero_le _⟩
theorem sm_b {w : Nat → Nat} : ∀ a, (∀ i, i < a → w i ≤ 5) → smW w a ≤ 5 * a := by
  intro a
  induction a with
  | zero => intro _; exact Nat.le_refl _
  | succ a ih =>
    intro h
    have h1 := ih (fun i hi => h i (by omega))
    have h2 := h a (by omega)
    show smW w a + w a ≤ 5 * (a + 1)
    omega
theorem sm_up : smW (upN w a v) (a + 1) = smW w a + v := by
  show smW (upN w a v) a + upN w a v a = _
  rw [upN_s, (cdW_congr (w := upN w a v) (w' := w) a (fun k hk => upN_o (by omega))).2]
theorem hd_sum' (h : seW d e F n L B (lxP a w v)) (ha : a < n) (hne : ¬ fo L = -1) (hge : ¬ nI (smW w a + v) < fo L) (hlo : ∀ l, L = some l → l ≤ 30) (hb : smW w a + v < 100) : ∀ x, rgW n x → okW d e F n x → (∀ i, i < a → x i = w i) → v ≤ x a → hdW n L B x := by
  cases L with
  | none => exact absurd rfl hne
  | some l =>
    intro x r _ hx hv
    have h9 := hlo l rfl
    have h8 : ¬ smW w a + v < l := fun z => hge ((nI_ltI (a := smW w a + v) (b := l) (by omega) (by omega)).mpr z)
    exact hd_sum h ha (by omega) r hx hv
theorem fo_ltN {s : Nat} (h : fo L = -1 ∨ nI s < fo L) (hlo : ∀ l, L = some l → l ≤ 30) (hb : s < 100) : ∀ l, L = some l → s < l := by
  intro l hl
  have h9 := hlo l hl
  subst hl
  rcases h with h | h
  · exact absurd h (nI_m1 (by omega))
  · exact (nI_ltI (a := s) (b := l) (by omega) (by omega)).mp h
/-- back a place -/
theorem seT_back (hse : seW d e F n L B (lxP a w v)) (ha : a < n) (h6 : n ≤ 6) (hok : okW d e F a w) (hwv : ∀ i, i < a → w i ≤ 5 ∧ f i = nI (w i)) (hv : v ≤ 6) (hm : i ≤ ms7 a w v) (hp : ∀ x, rgW n x → okW d e F n x → (∀ i, i < a → x i = w i) → v ≤ x a → hdW n L B x) : seT d e F n L B a w (w (a - 1) + 1) f (i + 1) := by
  have h1 := seW_back hse hp
  cases a with
  | zero => exact Or.inl ⟨seW_all h1, Or.inl rfl, by omega⟩
  | succ b =>
    have h2 := hwv b (by omega)
    refine Or.inr ⟨b, rfl, ⟨by omega, seW_up h1, fun j hj k hk => hok j (by omega) k hk, fun j hj => hwv j (by omega), ?_, ?_⟩, ?_⟩
    · show f b = nI (w b + 1) - 1
      rw [nI_pred]; exact h2.2
    · show w b + 1 ≤ 6
      omega
    · have h3 := ms7_up (a := b) (v := v) (w := w) (by omega) hv
      show i + 1 ≤ ms7 b w (w b + 1)
      omega
theorem seT_unfit (hse : seW d e F n L B (lxP a w v)) (ha : a < n) (hok : okW d e F a w) (hwv : ∀ i, i < a → w i ≤ 5 ∧ f i = nI (w i)) (hfa : f a = nI v) (hv : v ≤ 5) (hm : i ≤ ms7 a w v) (hc : ∃ k, k < a ∧ cfW d e F (upN w a v) a k = true) : seT d e F n L B (a + 1) w (v + 1) f (i + 1) := by
  obtain ⟨k, hk, hc⟩ := hc
  have h3 := ms7_v (a := a) (v := v) (w := w)
  exact Or.inr ⟨a, rfl, ⟨ha, seW_unfit hse ha hk hc, hok, hwv, by rw [nI_pred]; exact hfa, by omega⟩, by omega⟩
theorem seT_new {B' : Nat → Nat} (hse : seW d e F n L B (lxP a w v)) (hn : n = a + 1) (hok : okW d e F a w) (hwv : ∀ i, i < a → w i ≤ 5 ∧ f i = nI (w i)) (hfa : f a = nI v) (hv : v ≤ 5) (hm : i ≤ ms7 a w v) (hf : ∀ k, k < a → cfW d e F (upN w a v) a k = false) (hs : ∀ l, L = some l → smW w a + v < l) (hB : ∀ i, i < n → B' i = upN w a v i) : seT d e F n (some (smW w a + v)) B' (a + 1) w (v + 1) f (i + 1) := by
  subst hn
  have h3 := ms7_v (a := a) (v := v) (w := w)
  exact Or.inr ⟨a, rfl, ⟨by omega, seW_new hse (fun j hj => (hwv j hj).1) hv hok hf hs hB, hok, hwv, by rw [nI_pred]; exact hfa, by omega⟩, by omega⟩
theorem seT_dn {f' : Nat → Int32} (hse : seW d e F n L B (lxP a w v)) (ha : a + 1 < n) (hok : okW d e F a w) (hwv : ∀ i, i < a → w i ≤ 5 ∧ f' i = nI (w i)) (hfa : f' a = nI v) (hf1 : f' (a + 1) = -1) (hv : v ≤ 5) (hm : i ≤ ms7 a w v) (hf : ∀ k, k < a → cfW d e F (upN w a v) a k = false) : seT d e F n L B (a + 1 + 1) (upN w a v) 0 f' (i + 1) := by
  have h3 := ms7_dn (a := a) (v := v) (w := w)
  refine Or.inr ⟨a + 1, rfl, ⟨ha, seW_dn hse, okW_up hok hf, fun j hj => ?_, by rw [hf1]; decide, by omega⟩, by omega⟩
  by_cases e : j = a
  · rw [e, upN_s]; exact ⟨hv, hfa⟩
  · rw [upN_o e]; exact hwv j (by omega)
end SES
/-! the answer -/
def clR (L : Option Nat) (B : Nat → Nat) (q x : Int32) : Int32 :=
  match L with
  | none => -5
  | some l => if q = -1 then nI l else nI (B (cnt x q.toNatClampNeg))
theorem cnt_low {x : Int32} {t : Nat} (ht : t ≤ 31) : cnt (x &&& (((1 : Int32) <<< (nI t &&& 31)) - 1)) 32 = cnt x t := by
  have h1 : cnt (x &&& (((1 : Int32) <<< (nI t &&& 31)) - 1)) t = cnt x t := cnt_congr t (fun k hk => by
    rw [bt_and, bt_low (by omega), decide_eq_true hk, Bool.and_true])
  have h2 := cnt_up (x := x &&& (((1 : Int32) <<< (nI t &&& 31)) - 1)) (n := t) (32 - t) (fun k h3 h4 => by
    rw [bt_and, bt_low (by omega), decide_eq_false (by omega), Bool.and_false])
  rw [show t + (32 - t) = 32 by omega] at h2
  rw [h2, h1]
theorem cnt_nt {x : Int32} {nt c : Nat} (ht : nt ≤ 32) (h : cnt x 32 ≤ c) : cnt x nt ≤ c := by
  have h1 := cnt_mono (x := x) (i := nt) (32 - nt)
  rw [show nt + (32 - nt) = 32 by omega] at h1
  omega
/-- days of trials as numbers -/
theorem de_tr {T : Nat → Nat → Int32} {nt : Nat} (h : ∀ z, z < nt → (∃ d, d ≤ 9999 ∧ T z 0 = nI d) ∧ ∃ e, 1 ≤ e ∧ e ≤ 9 ∧ T z 1 = nI e) : ∀ z, z < nt → (T z 0 = nI (T z 0).toNatClampNeg ∧ (T z 0).toNatClampNeg ≤ 9999) ∧ T z 1 = nI (T z 1).toNatClampNeg ∧ 1 ≤ (T z 1).toNatClampNeg ∧ (T z 1).toNatClampNeg ≤ 9 := fun z hz => by
  obtain ⟨⟨d, hd, e0⟩, g, g1, g2, e1⟩ := h z hz
  rw [e0, e1, nI_clamp (by omega), nI_clamp (by omega)]
  exact ⟨⟨rfl, hd⟩, rfl, g1, g2⟩
/-! ===== clash: the reference's codes ===== -/
theorem cdG_st2 {r k n c s : Nat} {w : Nat → Nat} (hk : k < n) (h : cdG r w (k + 1) (n - (k + 1)) = c) (hs : smG w (k + 1) (n - (k + 1)) = s) : cdG (r / 6) (upN w k (r % 6)) k (n - k) = c ∧ smG (upN w k (r % 6)) k (n - k) = s + r % 6 := by
  have h1 := cdG_st (r := r) (k := k) (m := n - (k + 1)) (w := w) h hs
  rw [show n - (k + 1) + 1 = n - k by omega] at h1
  exact h1
theorem cd_fin {r n c s : Nat} {w : Nat → Nat} (h : cdG r w 0 (n - 0) = c) (hs : smG w 0 (n - 0) = s) (hr : r < 6 ^ 0) : cdW w n = c ∧ smW w n = s := by
  have hr : r < 1 := hr
  have h0 : r = 0 := by omega
  subst h0
  rw [Nat.sub_zero] at h hs
  obtain ⟨e1, e2⟩ := cdG_0 (w := w) n
  exact ⟨e1.symm.trans h, e2.symm.trans hs⟩
theorem m1_lt {k : Nat} (hk : k ≤ 6) (h : nI k - 1 < 0) : k = 0 := by
  cases k with
  | zero => rfl
  | succ k =>
    rw [nI_pred] at h
    exact absurd h (Int32.not_lt.mpr (nI_pos9 (by omega)))
theorem pow6 : ∀ n, n ≤ 6 → 6 ^ n ≤ 46656 := by decide
theorem pow6_d {r k : Nat} (h : r < 6 ^ (k + 1)) : r / 6 < 6 ^ k := by
  rw [Nat.pow_succ] at h
  omega
theorem sr_0 {x : Int32} {k : Nat} (hk : k < 32) : x >>> (nI k &&& 31) &&& 1 = 0 ↔ bt x k = false := by
  rw [sr_bt hk]
  cases bt x k <;> decide
/-- the sum isn't less than the least so far -/
theorem fo_ge {L : Option Nat} {s : Nat} (h0 : ¬ fo L = -1) (h : fo L ≤ nI s) (hlo : ∀ l, L = some l → l ≤ 30) (hs : s < 100) : ∃ l, L = some l ∧ l ≤ s := by
  cases L with
  | none => exact absurd rfl h0
  | some l =>
    have h9 := hlo l rfl
    exact ⟨l, rfl, (nI_leI (a := l) (b := s) (by omega) (by omega)).mp h⟩
theorem fo_ltM {L : Option Nat} {s : Nat} (h : fo L = -1 ∨ ¬ fo L ≤ nI s) (hlo : ∀ l, L = some l → l ≤ 30) (hs : s < 100) : ∀ l, L = some l → s < l := by
  intro l hl
  have h9 := hlo l hl
  subst hl
  rcases h with h | h
  · exact absurd h (nI_m1 (by omega))
  · have h8 : ¬ l ≤ s := fun z => h ((nI_leI (a := l) (b := s) (by omega) (by omega)).mpr z)
    omega
/-- the same problem on both sides, the same answer -/
theorem clR_eq {d e d' e' : Nat → Nat} {F F' : Nat → Nat → Bool} {n : Nat} {L L' : Option Nat} {B B' : Nat → Nat} {q x : Int32} (h : bsW d e F n L B) (h' : bsW d' e' F' n L' B') (hd : ∀ k, k < n → d k = d' k ∧ e k = e' k) (hF : ∀ i, i < n → ∀ k, k < i → F i k = F' i k) (hq : q = -1 ∨ cnt x q.toNatClampNeg < n) : clR L B q x = clR L' B' q x := by
  have ho : ∀ w, okW d' e' F' n w ↔ okW d e F n w := fun w => by
    constructor
    · intro h9 i hi k hk
      have h8 := h9 i hi k hk
      unfold cfW at h8 ⊢
      rw [(hd i hi).1, (hd i hi).2, (hd k (by omega)).1, (hd k (by omega)).2, hF i hi k hk]
      exact h8
    · intro h9 i hi k hk
      have h8 := h9 i hi k hk
      unfold cfW at h8 ⊢
      rw [← (hd i hi).1, ← (hd i hi).2, ← (hd k (by omega)).1, ← (hd k (by omega)).2, ← hF i hi k hk]
      exact h8
  have h2 : bsW d e F n L' B' := ⟨fun w r o => h'.1 w r ((ho w).mpr o), fun l hl => by
    obtain ⟨a1, a2, a3⟩ := h'.2 l hl
    exact ⟨a1, (ho _).mp a2, a3⟩⟩
  obtain ⟨e1, e2⟩ := bsW_uniq h h2
  subst e1
  cases L with
  | none => rfl
  | some l =>
    show (if q = -1 then nI l else nI (B (cnt x q.toNatClampNeg))) = (if q = -1 then nI l else nI (B' (cnt x q.toNatClampNeg)))
    by_cases hq1 : q = -1
    · rw [if_pos hq1, if_pos hq1]
    · rw [if_neg hq1, if_neg hq1, e2 (fun z => by cases z) _ (hq.resolve_left hq1)]
theorem clR_s {L : Option Nat} {B : Nat → Nat} {q x : Int32} (hq : q = -1) (hne : ¬ fo L = -1) : clR L B q x = fo L := by
  cases L with
  | none => exact absurd rfl hne
  | some l => exact if_pos hq
theorem clR_b {L : Option Nat} {B : Nat → Nat} {f : Nat → Int32} {a n : Nat} {x : Int32} (hb : ∀ l, L = some l → ∀ k, k < n → f k = nI (B k)) (hne : ¬ fo L = -1) (ha : a < 2 ^ 31) (hl : cnt x a < n) : f (cnt x a) = clR L B (nI a) x := by
  cases L with
  | none => exact absurd rfl hne
  | some l =>
    show f (cnt x a) = if nI a = -1 then nI l else nI (B (cnt x (nI a).toNatClampNeg))
    rw [if_neg (nI_m1 ha), nI_clamp ha]
    exact hb l rfl _ hl

