/-- of the rolls known by a day the one of the latest year, the last told of these -/
def rlc (R : Nat → Nat → Int32) (day : Int32) (i : Nat) : Option Nat → Bool
  | none => decide (R i 2 ≤ day)
  | some z => decide (R i 2 ≤ day ∧ R z 1 ≤ R i 1)
def rlB (R : Nat → Nat → Int32) (day : Int32) : Nat → Option Nat
  | 0 => none
  | i + 1 => if rlc R day i (rlB R day i) = true then some i else rlB R day i
def rlV (np nr : Nat) (R : Nat → Nat → Int32) (day : Int32) : Int32 :=
  match rlB R day nr with
  | none => (1 <<< (nI np &&& 31)) - 1
  | some z => R z 0
theorem rlB_y {R : Nat → Nat → Int32} {day : Int32} {i : Nat} {o : Option Nat} (h : rlB R day i = o) (hc : rlc R day i o = true) : rlB R day (i + 1) = some i := by
  show (if rlc R day i (rlB R day i) = true then _ else _) = _
  rw [h, if_pos hc]
theorem rlB_n {R : Nat → Nat → Int32} {day : Int32} {i : Nat} {o : Option Nat} (h : rlB R day i = o) (hc : ¬ rlc R day i o = true) : rlB R day (i + 1) = o := by
  show (if rlc R day i (rlB R day i) = true then _ else _) = _
  rw [h, if_neg hc]
theorem rlc_k {R : Nat → Nat → Int32} {day : Int32} {i : Nat} (o : Option Nat) (h : day < R i 2) : ¬ rlc R day i o = true := by
  cases o with
  | none => exact fun z => absurd (of_decide_eq_true z) (Int32.not_le.mpr h)
  | some b => exact fun z => absurd (of_decide_eq_true z).1 (Int32.not_le.mpr h)
theorem rlc_0 {R : Nat → Nat → Int32} {day : Int32} {i : Nat} (h : ¬ day < R i 2) : rlc R day i none = true := decide_eq_true (Int32.not_lt.mp h)
theorem rlc_1 {R : Nat → Nat → Int32} {day : Int32} {i b : Nat} (h : ¬ day < R i 2) (h2 : ¬ R i 1 < R b 1) : rlc R day i (some b) = true := decide_eq_true ⟨Int32.not_lt.mp h, Int32.not_lt.mp h2⟩
theorem rlc_2 {R : Nat → Nat → Int32} {day : Int32} {i b : Nat} (h2 : R i 1 < R b 1) : ¬ rlc R day i (some b) = true := fun z => absurd (of_decide_eq_true z).2 (Int32.not_le.mpr h2)
theorem rlV_0 {np nr : Nat} {R : Nat → Nat → Int32} {day : Int32} (h : rlB R day nr = none) : rlV np nr R day = (1 <<< (nI np &&& 31)) - 1 := by
  unfold rlV; rw [h]
theorem rlV_1 {np nr z : Nat} {R : Nat → Nat → Int32} {day : Int32} (h : rlB R day nr = some z) : rlV np nr R day = R z 0 := by
  unfold rlV; rw [h]
theorem rlB_lt {R : Nat → Nat → Int32} {day : Int32} : ∀ n z, rlB R day n = some z → z < n := by
  intro n
  induction n with
  | zero => intro z h; cases h
  | succ n ih =>
    intro z h
    have h : (if rlc R day n (rlB R day n) = true then some n else rlB R day n) = some z := h
    by_cases hc : rlc R day n (rlB R day n) = true
    · rw [if_pos hc] at h; cases h; omega
    · rw [if_neg hc] at h
      have := ih z h
      omega
theorem rlB_congr {R R' : Nat → Nat → Int32} {day : Int32} {N : Nat} (h : ∀ i, i < N → ∀ c, c < 3 → R i c = R' i c) : ∀ n, n ≤ N → rlB R day n = rlB R' day n := by
  intro n
  induction n with
  | zero => intro _; rfl
  | succ n ih =>
    intro hn
    have ih := ih (by omega)
    show (if rlc R day n (rlB R day n) = true then some n else rlB R day n) = (if rlc R' day n (rlB R' day n) = true then some n else rlB R' day n)
    have e : rlc R day n (rlB R day n) = rlc R' day n (rlB R' day n) := by
      rw [← ih]
      cases hb : rlB R day n with
      | none => show decide (R n 2 ≤ day) = decide (R' n 2 ≤ day); rw [h n (by omega) 2 (by omega)]
      | some z =>
        have hz := rlB_lt _ _ hb
        show decide (R n 2 ≤ day ∧ R z 1 ≤ R n 1) = decide (R' n 2 ≤ day ∧ R' z 1 ≤ R' n 1)
        rw [h n (by omega) 2 (by omega), h n (by omega) 1 (by omega), h z (by omega) 1 (by omega)]
    rw [e, ih]
theorem rlV_congr {np nr : Nat} {R R' : Nat → Nat → Int32} {day : Int32} (h : ∀ i, i < nr → ∀ c, c < 3 → R i c = R' i c) : rlV np nr R day = rlV np nr R' day := by
  have e := rlB_congr (day := day) h nr (Nat.le_refl _)
  cases hb : rlB R day nr with
  | none => rw [rlV_0 hb, rlV_0 (e.symm.trans hb)]
  | some z => rw [rlV_1 hb, rlV_1 (e.symm.trans hb), h z (rlB_lt _ _ hb) 0 (by omega)]
theorem fo_none {o : Option Nat} {N : Nat} (hN : N < 2 ^ 31) (ho : ∀ z, o = some z → z < N) (h : fo o = -1) : o = none := by
  cases o with
  | none => rfl
  | some z => exact absurd h (nI_m1 (Nat.lt_trans (ho z rfl) hN))
theorem nI_mulq {a b : Nat} : nI a * nI b = nI (a * b) := (Int32.ofNat_mul a b).symm
theorem ixQ {n w c : Nat} (h : w * n + c < 2 ^ 31) : Int32.toNatClampNeg (nI n * nI w + nI c) = w * n + c := by
  rw [nI_mulq, nI_add, nI_clamp (by rw [Nat.mul_comm]; exact h), Nat.mul_comm]
theorem atQ {d : Nat → Int32} {n w i c : Nat} (hi : i < n) (hc : c < w) (hn : n < 100) (hw : w < 100) : atv d n w (nI i) (nI c) = d (w * i + c) := by
  have h1 : w * i < 100 * 100 := by
    have := Nat.mul_le_mul (show w ≤ 100 by omega) (show i ≤ 99 by omega)
    omega
  unfold atv
  rw [if_pos ⟨inN_n hi (by omega), inN_n hc (by omega)⟩, ixQ (by omega)]
/-- does the act hold on a day -/
def fch (A : Nat → Nat → Int32) (sort day : Int32) (i : Nat) : Bool := decide (A i 0 = sort ∧ A i 1 ≤ day ∧ (A i 2 = -1 ∨ day < A i 2))
def fcc (A : Nat → Nat → Int32) (sort day : Int32) (i : Nat) : Option Nat → Bool
  | none => fch A sort day i
  | some z => fch A sort day i && decide (A z 1 ≤ A i 1)
/-- of the acts of a sort that hold on a day the one that began last, the last told of these -/
def fcB (A : Nat → Nat → Int32) (sort day : Int32) : Nat → Option Nat
  | 0 => none
  | i + 1 => if fcc A sort day i (fcB A sort day i) = true then some i else fcB A sort day i
section FC
variable {A A' : Nat → Nat → Int32} {s d : Int32} {i b : Nat}
theorem fcB_y {o : Option Nat} (h : fcB A s d i = o) (hc : fcc A s d i o = true) : fcB A s d (i + 1) = some i := by
  show (if fcc A s d i (fcB A s d i) = true then _ else _) = _
  rw [h, if_pos hc]
theorem fcB_n {o : Option Nat} (h : fcB A s d i = o) (hc : ¬ fcc A s d i o = true) : fcB A s d (i + 1) = o := by
  show (if fcc A s d i (fcB A s d i) = true then _ else _) = _
  rw [h, if_neg hc]
theorem fch_t (h0 : A i 0 = s) (h1 : ¬ d < A i 1) (h2 : A i 2 = -1 ∨ ¬ A i 2 ≤ d) : fch A s d i = true :=
  decide_eq_true ⟨h0, Int32.not_lt.mp h1, h2.elim Or.inl (fun z => Or.inr (Int32.not_le.mp z))⟩
theorem fch_f (h : ¬ A i 0 = s ∨ d < A i 1 ∨ (¬ A i 2 = -1 ∧ A i 2 ≤ d)) : ¬ fch A s d i = true := fun z => by
  obtain ⟨z0, z1, z2⟩ := of_decide_eq_true z
  rcases h with h | h | ⟨h, h'⟩
  · exact h z0
  · exact absurd z1 (Int32.not_le.mpr h)
  · rcases z2 with z2 | z2
    · exact h z2
    · exact absurd h' (Int32.not_le.mpr z2)
theorem fcc_k (o : Option Nat) (h : ¬ fch A s d i = true) : ¬ fcc A s d i o = true := by
  cases o with
  | none => exact h
  | some b =>
    intro z
    have z : (fch A s d i && decide (A b 1 ≤ A i 1)) = true := z
    rw [Bool.and_eq_true] at z
    exact h z.1
theorem fcc_1 (h : fch A s d i = true) (h2 : ¬ A i 1 < A b 1) : fcc A s d i (some b) = true := by
  show (fch A s d i && decide (A b 1 ≤ A i 1)) = true
  rw [h, decide_eq_true (Int32.not_lt.mp h2)]; rfl
theorem fcc_2 (h2 : A i 1 < A b 1) : ¬ fcc A s d i (some b) = true := by
  show ¬ (fch A s d i && decide (A b 1 ≤ A i 1)) = true
  rw [decide_eq_false (Int32.not_le.mpr h2), Bool.and_false]; decide
theorem fcB_lt : ∀ n z, fcB A s d n = some z → z < n := by
  intro n
  induction n with
  | zero => intro z h; cases h
  | succ n ih =>
    intro z h
    have h : (if fcc A s d n (fcB A s d n) = true then some n else fcB A s d n) = some z := h
    by_cases hc : fcc A s d n (fcB A s d n) = true
    · rw [if_pos hc] at h; cases h; omega
    · rw [if_neg hc] at h
      have := ih z h
      omega
theorem fcB_congr {N : Nat} (h : ∀ i, i < N → ∀ c, c < 3 → A i c = A' i c) : ∀ n, n ≤ N → fcB A s d n = fcB A' s d n := by
  intro n
  induction n with
  | zero => intro _; rfl
  | succ n ih =>
    intro hn
    have ih := ih (by omega)
    show (if fcc A s d n (fcB A s d n) = true then some n else fcB A s d n) = (if fcc A' s d n (fcB A' s d n) = true then some n else fcB A' s d n)
    have e1 : fch A s d n = fch A' s d n := by
      unfold fch
      rw [h n (by omega) 0 (by omega), h n (by omega) 1 (by omega), h n (by omega) 2 (by omega)]
    have e : fcc A s d n (fcB A s d n) = fcc A' s d n (fcB A' s d n) := by
      rw [← ih]
      cases hb : fcB A s d n with
      | none => exact e1
      | some z =>
        have hz := fcB_lt _ _ hb
        show (fch A s d n && decide (A z 1 ≤ A n 1)) = (fch A' s d n && decide (A' z 1 ≤ A' n 1))
        rw [e1, h n (by omega) 1 (by omega), h z (by omega) 1 (by omega)]
    rw [e, ih]
end FC

