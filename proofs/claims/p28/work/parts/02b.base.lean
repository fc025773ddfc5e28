/-! ===== the world as a function of a place: 333 cells, none made and none lost after the two constructors ===== -/
def wl (g : Nat → Nat) (f : Nat → va_E) : va_W := (List.range 333).map (fun k => (g k, f k))
def gOK (g : Nat → Nat) : Prop := ∀ i j, i < 333 → j < 333 → g i = g j → i = j
def gA (g : Nat → Nat) : Nat → Prop := fun q => ∃ k, k < 333 ∧ q = g k
theorem wl_get {g : Nat → Nat} {f : Nat → va_E} {k : Nat} (hk : k < 333) : (wl g f)[k]? = some (g k, f k) := by
  unfold wl
  rw [List.getElem?_map, List.getElem?_range hk]
  rfl
theorem wl_len {g : Nat → Nat} {f : Nat → va_E} : (wl g f).length = 333 := by
  unfold wl
  rw [List.length_map, List.length_range]
theorem wl_at {g : Nat → Nat} {f : Nat → va_E} {k : Nat} {e : va_E} (hk : k < 333) (h : f k = e) : (wl g f)[k]? = some (g k, e) := by
  rw [wl_get hk, h]
theorem wl_none {g : Nat → Nat} {f : Nat → va_E} {k : Nat} {q : Nat × va_E} (h : (wl g f)[k]? = some q) : k < 333 := by
  have := (List.getElem?_eq_some_iff.mp h).1
  rw [wl_len] at this
  exact this
theorem wl_D {g : Nat → Nat} (hg : gOK g) (f : Nat → va_E) : va_D (gA g) (wl g f) := by
  refine ⟨fun i j p q hi hj h => ?_, fun k q hk => ?_⟩
  · have h1 := wl_none hi
    have h2 := wl_none hj
    rw [wl_get h1] at hi
    rw [wl_get h2] at hj
    cases hi; cases hj
    exact hg i j h1 h2 h
  · have h1 := wl_none hk
    rw [wl_get h1] at hk
    cases hk
    exact ⟨k, h1, rfl⟩
theorem wl_set {g : Nat → Nat} {f : Nat → va_E} {k : Nat} {e : va_E} (hk : k < 333) : (wl g f).set k (g k, e) = wl g (va_up f k e) := by
  apply List.ext_getElem?
  intro j
  rw [List.getElem?_set]
  by_cases hj : j < 333
  · rw [wl_get (f := va_up f k e) hj, wl_get (f := f) hj]
    by_cases h : k = j
    · subst h
      rw [if_pos rfl, wl_len, if_pos hk]
      simp [va_up]
    · rw [if_neg h]
      simp [va_up, Ne.symm h]
  · rw [List.getElem?_eq_none (by rw [wl_len]; omega), List.getElem?_eq_none (by rw [wl_len]; omega)]
    by_cases h : k = j
    · subst h; exact absurd hk hj
    · rw [if_neg h]
theorem up_s {f : Nat → va_E} {k : Nat} {e : va_E} : va_up f k e k = e := by simp [va_up]
theorem up_o {f : Nat → va_E} {k j : Nat} {e : va_E} (h : j ≠ k) : va_up f k e j = f j := by simp [va_up, h]
/-- a method's start: its arguments, the world f -/
def bP (G : gW) (g : Nat → Nat) (f : Nat → va_E) (av : List Value) : Array Value → State → Prop := fun v U => v = av.toArray ∧ va_P G.1 vwCl (wl g f) U.heap ∧ kG G U
theorem bP.blind {G : gW} {g : Nat → Nat} {f : Nat → va_E} {av : List Value} : FrameBlind (bP G g f av) := fun a U k mk h => ⟨h.1, h.2.1, kG.same (s := U) (U := U.calling k mk a) rfl h.2.2⟩
/-- a method's end: what it answers, the world behind it -/
def bQi (G : gW) (g : Nat → Nat) (post : Int32 → (Nat → va_E) → Prop) : Array Value → State → Outcome → State → Prop := fun _ st oc t => (∃ (r : Int32) (f' : Nat → va_E), oc = .returned (some (.int r)) ∧ post r f' ∧ va_P G.1 vwCl (wl g f') t.heap) ∧ va_F (gA g) st t
def bQl (G : gW) (g : Nat → Nat) (post : Int64 → (Nat → va_E) → Prop) : Array Value → State → Outcome → State → Prop := fun _ st oc t => (∃ (r : Int64) (f' : Nat → va_E), oc = .returned (some (.long r)) ∧ post r f' ∧ va_P G.1 vwCl (wl g f') t.heap) ∧ va_F (gA g) st t
def bQv (G : gW) (g : Nat → Nat) (post : (Nat → va_E) → Prop) : Array Value → State → Outcome → State → Prop := fun _ st oc t => (∃ (f' : Nat → va_E), oc = .returned none ∧ post f' ∧ va_P G.1 vwCl (wl g f') t.heap) ∧ va_F (gA g) st t
section MYB
variable {p : Program} {l : Launch} {e : Env} {R : Room} {s : State} {m : MethodId} {args : Array Value} {below : List Frame} {meth : Method} {c : Code} {H : Heap} {locs : List Loc} {cells slots : Nat} {Q : State → Prop}
variable {pc : Nat} {ls : Array Slot} {rest st0 : List Value} {a : Array Value} {H0 : Heap} {G : gW} {g : Nat → Nat}
theorem b_calli {post : Int32 → (Nat → va_E) → Prop} (hr : va_Run p l e R s m args below meth c H locs cells slots 0 0 (F0 m pc ls st0) rest (bQi G g post a) (gA g)) (hS : va_S (gA g) H0 H locs)
    (kk : ∀ (r : Int32) (f' : Nat → va_E) (H1 : Heap) (locs1 : List Loc), post r f' → va_P G.1 vwCl (wl g f') H1 → va_S (gA g) H0 H1 locs1 → W p l e R s m args below meth c H1 locs1 cells slots Q (F0 m (pc + 3) ls (.int r :: rest))) : W p l e R s m args below meth c H locs cells slots Q (F0 m pc ls st0) := by
  intro T hT X
  obtain ⟨v, st₀, t, T', L, h0, X', hL, e1, e2, ⟨⟨r, f', hv, hp, hw⟩, hz, hk⟩, st⟩ := hr T hT X
  cases hv
  rw [h0] at hz hk
  obtain ⟨t2, a1, b1⟩ := kk r f' T'.heap (locs ++ L) hp (by rw [e1]; exact hw) ⟨Nat.le_trans hS.1 (by rw [e1]; exact hz), fun q h1 h2 => by rw [e1, hk q (Nat.lt_of_lt_of_le h1 hS.1) h2]; exact hS.2.1 q h1 h2, fun q hq => (List.mem_append.mp hq).elim (hS.2.2 q) (hL q)⟩ T' rfl X'
  exact ⟨t2, st t2 a1, b1⟩
theorem b_calll {post : Int64 → (Nat → va_E) → Prop} (hr : va_Run p l e R s m args below meth c H locs cells slots 0 0 (F0 m pc ls st0) rest (bQl G g post a) (gA g)) (hS : va_S (gA g) H0 H locs)
    (kk : ∀ (r : Int64) (f' : Nat → va_E) (H1 : Heap) (locs1 : List Loc), post r f' → va_P G.1 vwCl (wl g f') H1 → va_S (gA g) H0 H1 locs1 → W p l e R s m args below meth c H1 locs1 cells slots Q (F0 m (pc + 3) ls (.long r :: rest))) : W p l e R s m args below meth c H locs cells slots Q (F0 m pc ls st0) := by
  intro T hT X
  obtain ⟨v, st₀, t, T', L, h0, X', hL, e1, e2, ⟨⟨r, f', hv, hp, hw⟩, hz, hk⟩, st⟩ := hr T hT X
  cases hv
  rw [h0] at hz hk
  obtain ⟨t2, a1, b1⟩ := kk r f' T'.heap (locs ++ L) hp (by rw [e1]; exact hw) ⟨Nat.le_trans hS.1 (by rw [e1]; exact hz), fun q h1 h2 => by rw [e1, hk q (Nat.lt_of_lt_of_le h1 hS.1) h2]; exact hS.2.1 q h1 h2, fun q hq => (List.mem_append.mp hq).elim (hS.2.2 q) (hL q)⟩ T' rfl X'
  exact ⟨t2, st t2 a1, b1⟩
theorem b_callv {post : (Nat → va_E) → Prop} (hr : va_Run p l e R s m args below meth c H locs cells slots 0 0 (F0 m pc ls st0) rest (bQv G g post a) (gA g)) (hS : va_S (gA g) H0 H locs)
    (kk : ∀ (f' : Nat → va_E) (H1 : Heap) (locs1 : List Loc), post f' → va_P G.1 vwCl (wl g f') H1 → va_S (gA g) H0 H1 locs1 → W p l e R s m args below meth c H1 locs1 cells slots Q (F0 m (pc + 3) ls rest)) : W p l e R s m args below meth c H locs cells slots Q (F0 m pc ls st0) := by
  intro T hT X
  obtain ⟨v, st₀, t, T', L, h0, X', hL, e1, e2, ⟨⟨f', hv, hp, hw⟩, hz, hk⟩, st⟩ := hr T hT X
  cases hv
  rw [h0] at hz hk
  obtain ⟨t2, a1, b1⟩ := kk f' T'.heap (locs ++ L) hp (by rw [e1]; exact hw) ⟨Nat.le_trans hS.1 (by rw [e1]; exact hz), fun q h1 h2 => by rw [e1, hk q (Nat.lt_of_lt_of_le h1 hS.1) h2]; exact hS.2.1 q h1 h2, fun q hq => (List.mem_append.mp hq).elim (hS.2.2 q) (hL q)⟩ T' rfl X'
  exact ⟨t2, st t2 a1, b1⟩
/-- what a store leaves: the place it wrote, all others -/
theorem b_put {f : Nat → va_E} {k : Nat} {e1 : va_E} (hk : k < 333) (hP : va_P G.1 vwCl ((wl g f).set k (g k, e1)) H) : ∃ f1 : Nat → va_E, va_P G.1 vwCl (wl g f1) H ∧ f1 k = e1 ∧ ∀ j, j ≠ k → f1 j = f j :=
  ⟨va_up f k e1, by rw [← wl_set hk]; exact hP, up_s, fun j h => up_o h⟩
end MYB

