/-! ===== a hearing, told: out of the box, of those who may pass in, and of the trial's row ===== -/
def knV (F : Nat → Nat → Int32) (a b day : Int32) : Nat → Int32
  | 0 => 0
  | i + 1 => if (F i 1 = a ∨ F i 1 = b) ∧ F i 2 ≤ day then knV F a b day i ||| ((1 : Int32) <<< (F i 0 &&& 31)) else knV F a b day i
theorem knV_y {F : Nat → Nat → Int32} {a b day : Int32} {i : Nat} (h : (F i 1 = a ∨ F i 1 = b) ∧ F i 2 ≤ day) : knV F a b day (i + 1) = knV F a b day i ||| ((1 : Int32) <<< (F i 0 &&& 31)) := if_pos h
theorem knV_n {F : Nat → Nat → Int32} {a b day : Int32} {i : Nat} (h : ¬ ((F i 1 = a ∨ F i 1 = b) ∧ F i 2 ≤ day)) : knV F a b day (i + 1) = knV F a b day i := if_neg h
theorem knV_congr {F F' : Nat → Nat → Int32} {a b day : Int32} : ∀ n, (∀ i, i < n → ∀ c, c < 3 → F i c = F' i c) → knV F a b day n = knV F' a b day n := by
  intro n
  induction n with
  | zero => intro _; rfl
  | succ n ih =>
    intro h
    show (if (F n 1 = a ∨ F n 1 = b) ∧ F n 2 ≤ day then knV F a b day n ||| ((1 : Int32) <<< (F n 0 &&& 31)) else knV F a b day n) = (if (F' n 1 = a ∨ F' n 1 = b) ∧ F' n 2 ≤ day then knV F' a b day n ||| ((1 : Int32) <<< (F' n 0 &&& 31)) else knV F' a b day n)
    rw [ih (fun i hi => h i (by omega)), h n (by omega) 0 (by omega), h n (by omega) 1 (by omega), h n (by omega) 2 (by omega)]
def bzV (T : Nat → Nat → Int32) (J : Nat → Int32) (t : Nat) : Nat → Int32
  | 0 => 0
  | o + 1 => if T t 0 ≤ T o 0 + T o 1 - 1 then bzV T J t o ||| J o else bzV T J t o
theorem bzV_y {T : Nat → Nat → Int32} {J : Nat → Int32} {t o : Nat} (h : T t 0 ≤ T o 0 + T o 1 - 1) : bzV T J t (o + 1) = bzV T J t o ||| J o := if_pos h
theorem bzV_n {T : Nat → Nat → Int32} {J : Nat → Int32} {t o : Nat} (h : ¬ T t 0 ≤ T o 0 + T o 1 - 1) : bzV T J t (o + 1) = bzV T J t o := if_neg h
theorem bzV_congr {T T' : Nat → Nat → Int32} {J J' : Nat → Int32} {t : Nat} (ht : T t 0 = T' t 0) : ∀ n, (∀ o, o < n → T o 0 = T' o 0 ∧ T o 1 = T' o 1 ∧ J o = J' o) → bzV T J t n = bzV T' J' t n := by
  intro n
  induction n with
  | zero => intro _; rfl
  | succ n ih =>
    intro h
    obtain ⟨e1, e2, e3⟩ := h n (by omega)
    show (if T t 0 ≤ T n 0 + T n 1 - 1 then bzV T J t n ||| J n else bzV T J t n) = (if T' t 0 ≤ T' n 0 + T' n 1 - 1 then bzV T' J' t n ||| J' n else bzV T' J' t n)
    rw [ih (fun o ho => h o (by omega)), ht, e1, e2, e3]
/-! strikes -/
def bo : Option Nat → Int32
  | none => 0
  | some p => b1 p
def lkL (lk : Nat → Int32) : Option Nat → Int32
  | none => -1
  | some p => lk p
def lkP (od : Nat → Nat) (lk : Nat → Int32) (lf : Int32) : Nat → Option Nat
  | 0 => none
  | i + 1 => if bt lf (od i) = true ∧ lk (od i) ≤ lkL lk (lkP od lk lf i) then some (od i) else lkP od lk lf i
theorem lkP_y {od : Nat → Nat} {lk : Nat → Int32} {lf : Int32} {i : Nat} (h : bt lf (od i) = true ∧ lk (od i) ≤ lkL lk (lkP od lk lf i)) : lkP od lk lf (i + 1) = some (od i) := if_pos h
theorem lkP_n {od : Nat → Nat} {lk : Nat → Int32} {lf : Int32} {i : Nat} (h : ¬ (bt lf (od i) = true ∧ lk (od i) ≤ lkL lk (lkP od lk lf i))) : lkP od lk lf (i + 1) = lkP od lk lf i := if_neg h
/-- whom a side strikes is left, was drawn, and is not liked -/
theorem lkP_s {od : Nat → Nat} {lk : Nat → Int32} {lf : Int32} : ∀ n p, lkP od lk lf n = some p → (∃ i, i < n ∧ od i = p) ∧ bt lf p = true ∧ lk p ≤ -1 := by
  intro n
  induction n with
  | zero => intro p h; cases h
  | succ n ih =>
    intro p h
    by_cases hc : bt lf (od n) = true ∧ lk (od n) ≤ lkL lk (lkP od lk lf n)
    · rw [lkP_y hc] at h
      cases h
      refine ⟨⟨n, by omega, rfl⟩, hc.1, ?_⟩
      cases hb : lkP od lk lf n with
      | none => rw [hb] at hc; exact hc.2
      | some q => rw [hb] at hc; exact Int32.le_trans hc.2 (ih q hb).2.2
    · rw [lkP_n hc] at h
      obtain ⟨⟨i, hi, e⟩, h2⟩ := ih p h
      exact ⟨⟨i, by omega, e⟩, h2⟩
theorem lkP_0 {od : Nat → Nat} {lk : Nat → Int32} {lf : Int32} : ∀ n, lkP od lk lf n = none ↔ ∀ i, i < n → bt lf (od i) = true → ¬ lk (od i) ≤ -1 := by
  intro n
  induction n with
  | zero => exact ⟨fun _ i hi => by omega, fun _ => rfl⟩
  | succ n ih =>
    constructor
    · intro h i hi hb hl
      by_cases hc : bt lf (od n) = true ∧ lk (od n) ≤ lkL lk (lkP od lk lf n)
      · rw [lkP_y hc] at h; cases h
      · rw [lkP_n hc] at h
        by_cases e : i = n
        · subst e
          rw [h] at hc
          exact hc ⟨hb, hl⟩
        · exact ih.mp h i (by omega) hb hl
    · intro h
      have h0 := ih.mpr (fun i hi => h i (by omega))
      have hc : ¬ (bt lf (od n) = true ∧ lk (od n) ≤ lkL lk (lkP od lk lf n)) := fun z => by
        rw [h0] at z
        exact h n (by omega) z.1 z.2
      rw [lkP_n hc]; exact h0
def lfV (ca mi : Int32) (x : Int32 × Int32) : Int32 := ((ca &&& (mi ^^^ (-1))) &&& (x.1 ^^^ (-1))) &&& (x.2 ^^^ (-1))
def stN (u : Nat) (x : Int32 × Int32) : Option Nat → Int32 × Int32
  | none => x
  | some p => if u % 2 = 0 then (x.1 ||| b1 p, x.2) else (x.1, x.2 ||| b1 p)
def stX (pk : Nat → Int32 → Option Nat) (ca mi : Int32) : Nat → Int32 × Int32
  | 0 => (0, 0)
  | u + 1 => stN u (stX pk ca mi u) (pk (u % 2) (lfV ca mi (stX pk ca mi u)))
theorem or0 (x : Int32) : x ||| 0 = x := bt_ext (fun k hk => by rw [bt_or, bt_zero, Bool.or_false])
theorem stX_e {pk : Nat → Int32 → Option Nat} {ca mi : Int32} {i : Nat} : stX pk ca mi (2 * i + 1) = ((stX pk ca mi (2 * i)).1 ||| bo (pk 0 (lfV ca mi (stX pk ca mi (2 * i)))), (stX pk ca mi (2 * i)).2) := by
  show stN (2 * i) (stX pk ca mi (2 * i)) (pk ((2 * i) % 2) (lfV ca mi (stX pk ca mi (2 * i)))) = _
  rw [show (2 * i) % 2 = 0 by omega]
  cases pk 0 (lfV ca mi (stX pk ca mi (2 * i))) with
  | none => show stX pk ca mi (2 * i) = ((stX pk ca mi (2 * i)).1 ||| 0, (stX pk ca mi (2 * i)).2); rw [or0]
  | some p => show (if (2 * i) % 2 = 0 then _ else _) = _; rw [if_pos (by omega)]; rfl
theorem stX_o {pk : Nat → Int32 → Option Nat} {ca mi : Int32} {i : Nat} : stX pk ca mi (2 * (i + 1)) = ((stX pk ca mi (2 * i + 1)).1, (stX pk ca mi (2 * i + 1)).2 ||| bo (pk 1 (lfV ca mi (stX pk ca mi (2 * i + 1))))) := by
  show stN (2 * i + 1) (stX pk ca mi (2 * i + 1)) (pk ((2 * i + 1) % 2) (lfV ca mi (stX pk ca mi (2 * i + 1)))) = _
  rw [show (2 * i + 1) % 2 = 1 by omega]
  cases pk 1 (lfV ca mi (stX pk ca mi (2 * i + 1))) with
  | none => show stX pk ca mi (2 * i + 1) = ((stX pk ca mi (2 * i + 1)).1, (stX pk ca mi (2 * i + 1)).2 ||| 0); rw [or0]
  | some p => show (if (2 * i + 1) % 2 = 0 then _ else _) = _; rw [if_neg (by omega)]; rfl
/-! seats -/
def seF (od : Nat → Nat) (lf : Int32) (k : Nat) : Nat → Int32 × Nat
  | 0 => (0, 0)
  | i + 1 => if (seF od lf k i).2 < k ∧ bt lf (od i) = true then ((seF od lf k i).1 ||| b1 (od i), (seF od lf k i).2 + 1) else seF od lf k i
def paF (pas : Int32) (k : Nat) (x0 : Int32 × Nat) : Nat → Int32 × Nat
  | 0 => x0
  | p + 1 => if (paF pas k x0 p).2 < k ∧ bt pas p = true then ((paF pas k x0 p).1 ||| b1 p, (paF pas k x0 p).2 + 1) else paF pas k x0 p
theorem seF_y {od : Nat → Nat} {lf : Int32} {k i : Nat} (h : (seF od lf k i).2 < k ∧ bt lf (od i) = true) : seF od lf k (i + 1) = ((seF od lf k i).1 ||| b1 (od i), (seF od lf k i).2 + 1) := if_pos h
theorem seF_n {od : Nat → Nat} {lf : Int32} {k i : Nat} (h : ¬ ((seF od lf k i).2 < k ∧ bt lf (od i) = true)) : seF od lf k (i + 1) = seF od lf k i := if_neg h
theorem paF_y {pas : Int32} {k p : Nat} {x0 : Int32 × Nat} (h : (paF pas k x0 p).2 < k ∧ bt pas p = true) : paF pas k x0 (p + 1) = ((paF pas k x0 p).1 ||| b1 p, (paF pas k x0 p).2 + 1) := if_pos h
theorem paF_n {pas : Int32} {k p : Nat} {x0 : Int32 × Nat} (h : ¬ ((paF pas k x0 p).2 < k ∧ bt pas p = true)) : paF pas k x0 (p + 1) = paF pas k x0 p := if_neg h
theorem seF_stop {od : Nat → Nat} {lf : Int32} {k i : Nat} (h : ¬ (seF od lf k i).2 < k) : ∀ d, seF od lf k (i + d) = seF od lf k i := by
  intro d
  induction d with
  | zero => rfl
  | succ d ih =>
    rw [show i + (d + 1) = i + d + 1 from rfl, seF_n (by rw [ih]; exact fun z => h z.1), ih]
theorem paF_stop {pas : Int32} {k p : Nat} {x0 : Int32 × Nat} (h : ¬ (paF pas k x0 p).2 < k) : ∀ d, paF pas k x0 (p + d) = paF pas k x0 p := by
  intro d
  induction d with
  | zero => rfl
  | succ d ih =>
    rw [show p + (d + 1) = p + d + 1 from rfl, paF_n (by rw [ih]; exact fun z => h z.1), ih]
/-- of those seated each was drawn, and they are as many as counted -/
theorem seF_ok {od : Nat → Nat} {lf : Int32} {k m : Nat} (h30 : ∀ i, i < m → od i < 30) (hinj : ∀ i j, i < j → j < m → ¬ od i = od j) : ∀ n, n ≤ m → (∀ q, bt (seF od lf k n).1 q = true → bt lf q = true ∧ ∃ i, i < n ∧ od i = q) ∧ cnt (seF od lf k n).1 32 = (seF od lf k n).2 := by
  intro n
  induction n with
  | zero =>
    intro _
    refine ⟨fun q h => ?_, cnt_0 32⟩
    have h : bt 0 q = true := h
    rw [bt_zero] at h; cases h
  | succ n ih =>
    intro hn
    obtain ⟨h1, h2⟩ := ih (by omega)
    by_cases hc : (seF od lf k n).2 < k ∧ bt lf (od n) = true
    · rw [seF_y hc]
      have hb : bt (seF od lf k n).1 (od n) = false := by
        cases hb : bt (seF od lf k n).1 (od n) with
        | false => rfl
        | true =>
          obtain ⟨_, i, hi, e⟩ := h1 _ hb
          exact absurd e (hinj i n hi (by omega))
      have h3 := h30 n (by omega)
      refine ⟨fun q h => ?_, by rw [← h2]; exact cnt_or (by omega) hb 32 (by omega) (by omega)⟩
      have h : bt ((seF od lf k n).1 ||| b1 (od n)) q = true := h
      rw [bt_or, bt_b1 (by omega), Bool.or_eq_true, Bool.and_eq_true, decide_eq_true_iff, decide_eq_true_iff] at h
      rcases h with h | ⟨_, h⟩
      · obtain ⟨a, i, hi, e⟩ := h1 q h
        exact ⟨a, i, by omega, e⟩
      · rw [h]; exact ⟨hc.2, n, by omega, rfl⟩
    · rw [seF_n hc]
      refine ⟨fun q h => ?_, h2⟩
      obtain ⟨a, i, hi, e⟩ := h1 q h
      exact ⟨a, i, by omega, e⟩
theorem paF_ok {pas : Int32} {k : Nat} {x0 : Int32 × Nat} (h0 : cnt x0.1 32 = x0.2) (hd : ∀ q, q < 30 → bt pas q = true → bt x0.1 q = false) : ∀ n, n ≤ 30 → (∀ q, bt (paF pas k x0 n).1 q = true → bt x0.1 q = true ∨ (q < n ∧ bt pas q = true)) ∧ cnt (paF pas k x0 n).1 32 = (paF pas k x0 n).2 := by
  intro n
  induction n with
  | zero => intro _; exact ⟨fun q h => Or.inl h, h0⟩
  | succ n ih =>
    intro hn
    obtain ⟨h1, h2⟩ := ih (by omega)
    by_cases hc : (paF pas k x0 n).2 < k ∧ bt pas n = true
    · rw [paF_y hc]
      have hb : bt (paF pas k x0 n).1 n = false := by
        cases hb : bt (paF pas k x0 n).1 n with
        | false => rfl
        | true =>
          rcases h1 _ hb with e | e
          · rw [hd n (by omega) hc.2] at e; cases e
          · omega
      refine ⟨fun q h => ?_, by rw [← h2]; exact cnt_or (by omega) hb 32 (by omega) (by omega)⟩
      have h : bt ((paF pas k x0 n).1 ||| b1 n) q = true := h
      rw [bt_or, bt_b1 (by omega), Bool.or_eq_true, Bool.and_eq_true, decide_eq_true_iff, decide_eq_true_iff] at h
      rcases h with h | ⟨_, h⟩
      · exact (h1 q h).imp id (fun z => ⟨by omega, z.2⟩)
      · rw [h]; exact Or.inr ⟨by omega, hc.2⟩
    · rw [paF_n hc]
      exact ⟨fun q h => (h1 q h).imp id (fun z => ⟨by omega, z.2⟩), h2⟩
theorem or_and {x lf : Int32} {p : Nat} (hp : p < 32) : x ||| (lf &&& b1 p) = if bt lf p = true then x ||| b1 p else x := by
  apply bt_ext
  intro k hk
  rw [bt_or, bt_and, bt_b1 hp, decide_eq_true hk, Bool.true_and]
  by_cases h : bt lf p = true
  · rw [if_pos h, bt_or, bt_b1 hp, decide_eq_true hk, Bool.true_and]
    by_cases e : k = p
    · subst e; rw [h]; simp
    · simp [e]
  · rw [if_neg h]
    by_cases e : k = p
    · subst e; simp [eq_false_of_ne_true h]
    · simp [e]
/-! a hearing's numbers, by its box, its passers and its trial's row R -/
def hM (box : Int32) (R : Nat → Int32) : Nat := min (R 8).toNatClampNeg (cnt box 30)
def hCa (box : Int32) (R : Nat → Int32) : Int32 := drC box (R 7) (hM box R)
def hMi (box : Int32) (R : Nat → Int32) : Int32 := hCa box R &&& R 9
def hPk (box : Int32) (R : Nat → Int32) (sd : Nat) (lf : Int32) : Option Nat := lkP (drP box (R 7)) (fun p => R (30 * sd + p + 10)) lf (hM box R)
def hX (box : Int32) (R : Nat → Int32) : Int32 × Int32 := stX (hPk box R) (hCa box R) (hMi box R) (2 * (R 6).toNatClampNeg)
def hLf (box : Int32) (R : Nat → Int32) : Int32 := lfV (hCa box R) (hMi box R) (hX box R)
def hJ (box : Int32) (R : Nat → Int32) : Int32 × Nat := seF (drP box (R 7)) (hLf box R) (R 2).toNatClampNeg (hM box R)
def hW (box pas : Int32) (R : Nat → Int32) : Int32 × Nat := paF pas (R 2).toNatClampNeg (hJ box R) 30
def hSw (box pas : Int32) (R : Nat → Int32) : Int32 := if (hW box pas R).2 < (R 2).toNatClampNeg then 0 else (hW box pas R).1

