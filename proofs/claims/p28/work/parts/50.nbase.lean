/-! ===== worlds that grow: the constructors ===== -/
abbrev aL (l : List Nat) : Nat → Option Nat := fun j => l[j]?
theorem aL_push (l : List Nat) (q : Nat) : va_up (aL l) l.length (some q) = aL (l ++ [q]) := by
  funext j
  unfold va_up
  show (if j = l.length then some q else l[j]?) = (l ++ [q])[j]?
  rw [List.getElem?_append]
  by_cases h : j = l.length
  · rw [if_pos h, if_neg (by omega), h, Nat.sub_self]; rfl
  · rw [if_neg h]
    by_cases h2 : j < l.length
    · rw [if_pos h2]
    · rw [if_neg h2, List.getElem?_eq_none (by omega), List.getElem?_eq_none (by simp; omega)]
def wn (N : Nat) (g : Nat → Nat) (f : Nat → va_E) : va_W := (List.range N).map (fun k => (g k, f k))
theorem wn_get {N : Nat} {g : Nat → Nat} {f : Nat → va_E} {k : Nat} (hk : k < N) : (wn N g f)[k]? = some (g k, f k) := by
  unfold wn
  rw [List.getElem?_map, List.getElem?_range hk]
  rfl
theorem wn_len {N : Nat} {g : Nat → Nat} {f : Nat → va_E} : (wn N g f).length = N := by
  unfold wn
  rw [List.length_map, List.length_range]
theorem wn_lt {N : Nat} {g : Nat → Nat} {f : Nat → va_E} {k : Nat} {q : Nat × va_E} (h : (wn N g f)[k]? = some q) : k < N := by
  have := (List.getElem?_eq_some_iff.mp h).1
  rw [wn_len] at this
  exact this
theorem wn_at0 {N : Nat} {g : Nat → Nat} {f : Nat → va_E} {k q : Nat} {e : va_E} (hk : k < N) (hg : g k = q) (h : f k = e) : (wn N g f)[k]? = some (q, e) := by
  rw [wn_get hk, hg, h]
theorem wn_set {N : Nat} {g : Nat → Nat} {f : Nat → va_E} {k q : Nat} {e : va_E} (hk : k < N) (hg : g k = q) : (wn N g f).set k (q, e) = wn N g (va_up f k e) := by
  apply List.ext_getElem?
  intro j
  rw [List.getElem?_set]
  by_cases hj : j < N
  · rw [wn_get (f := va_up f k e) hj, wn_get (f := f) hj]
    by_cases h : k = j
    · subst h
      rw [if_pos rfl, wn_len, if_pos hk]
      simp [va_up, hg]
    · rw [if_neg h]
      simp [va_up, Ne.symm h]
  · rw [List.getElem?_eq_none (by rw [wn_len]; omega), List.getElem?_eq_none (by rw [wn_len]; omega)]
    by_cases h : k = j
    · subst h; exact absurd hk hj
    · rw [if_neg h]
theorem wn_push {N : Nat} {g : Nat → Nat} {f : Nat → va_E} {q : Nat} {e : va_E} : wn N g f ++ [(q, e)] = wn (N + 1) (va_up g N q) (va_up f N e) := by
  unfold wn
  rw [List.range_succ, List.map_append]
  congr 1
  · apply List.map_congr_left
    intro k hk
    have := List.mem_range.mp hk
    simp [va_up, Nat.ne_of_lt this]
  · simp [va_up]
/-- an address as a place's, kept out of omega's sight -/
def gq (x y : Nat) : Prop := x = y
theorem gq.tr {x y z : Nat} (h : x = y) (h2 : gq y z) : gq x z := h.trans h2
def nA (N : Nat) (g : Nat → Nat) (sz : Nat) : Nat → Prop := fun q => (∃ k, k < N ∧ q = g k) ∨ sz ≤ q
def nP (G : gW) (N : Nat) (g : Nat → Nat) (f : Nat → va_E) (sz : Nat) (av : List Value) : Array Value → State → Prop := fun v U => v = av.toArray ∧ U.heap.size = sz ∧ va_P G.1 vwCl (wn N g f) U.heap ∧ kG G U ∧ va_D (fun _ => True) (wn N g f)
theorem nP.blind {G : gW} {N : Nat} {g : Nat → Nat} {f : Nat → va_E} {sz : Nat} {av : List Value} : FrameBlind (nP G N g f sz av) := fun a U k mk h => ⟨h.1, h.2.1, h.2.2.1, kG.same (s := U) (U := U.calling k mk a) rfl h.2.2.2.1, h.2.2.2.2⟩
/-- a constructor's end: the world has M cells, the N of before stand where they stood -/
def nQ (G : gW) (N M : Nat) (g : Nat → Nat) (sz : Nat) (post : (Nat → Nat) → (Nat → va_E) → Prop) : Array Value → State → Outcome → State → Prop := fun _ st oc t => (∃ (g' : Nat → Nat) (f' : Nat → va_E), oc = .returned none ∧ (∀ j, j < N → g' j = g j) ∧ post g' f' ∧ va_P G.1 vwCl (wn M g' f') t.heap ∧ va_D (nA N g sz) (wn M g' f')) ∧ va_F (nA N g sz) st t
theorem wn_at {N : Nat} {g : Nat → Nat} {f : Nat → va_E} {k q : Nat} {e : va_E} (hk : k < N) (hg : gq (g k) q) (h : f k = e) : (wn N g f)[k]? = some (q, e) := wn_at0 hk hg h
theorem nD_self {N : Nat} {g : Nat → Nat} {f : Nat → va_E} {sz : Nat} {A : Nat → Prop} (h : va_D A (wn N g f)) : va_D (nA N g sz) (wn N g f) := ⟨h.1, fun k q hk => by
  have hl := wn_lt hk
  rw [wn_get hl] at hk
  cases hk
  exact Or.inl ⟨k, hl, rfl⟩⟩
section MYN
variable {p : Program} {l : Launch} {e : Env} {R : Room} {s : State} {m : MethodId} {args : Array Value} {below : List Frame} {meth : Method} {c : Code} {H : Heap} {locs : List Loc} {cells slots : Nat} {Q : State → Prop}
variable {pc : Nat} {ls : Array Slot} {rest st0 : List Value} {a : Array Value} {H0 : Heap} {G : gW} {g : Nat → Nat} {f : Nat → va_E} {N M : Nat} {A0 : Nat → Prop}
theorem n_sub (hD : va_D A0 (wn N g f)) (hS : va_S A0 H0 H locs) (hA : ∀ q, H0.size ≤ q → A0 q) : ∀ q, nA N g H.size q → A0 q := by
  intro q h
  rcases h with ⟨k, hk, rfl⟩ | h
  · exact hD.2 k _ (wn_get hk)
  · exact hA q (Nat.le_trans hS.1 h)
theorem n_call {post : (Nat → Nat) → (Nat → va_E) → Prop} {mc ms : Nat} (hr : va_Run p l e R s m args below meth c H locs cells slots mc ms (F0 m pc ls st0) rest (nQ G N M g H.size post a) (nA N g H.size)) (hD : va_D A0 (wn N g f)) (hS : va_S A0 H0 H locs) (hA : ∀ q, H0.size ≤ q → A0 q)
    (kk : ∀ (g' : Nat → Nat) (f' : Nat → va_E) (H1 : Heap) (locs1 : List Loc), (∀ j, j < N → g' j = g j) → post g' f' → va_P G.1 vwCl (wn M g' f') H1 → va_D A0 (wn M g' f') → va_S A0 H0 H1 locs1 → W p l e R s m args below meth c H1 locs1 (cells + mc) (slots + ms) Q (F0 m (pc + 3) ls rest)) : W p l e R s m args below meth c H locs cells slots Q (F0 m pc ls st0) := by
  intro T hT X
  obtain ⟨v, st₀, t, T', L, h0, X', hL, e1, e2, ⟨⟨g', f', hv, ha, hp, hw, hd⟩, hz, hk⟩, st⟩ := hr T hT X
  cases hv
  rw [h0] at hz hk
  have hs := n_sub hD hS hA
  obtain ⟨t2, a1, b1⟩ := kk g' f' T'.heap (locs ++ L) ha hp (by rw [e1]; exact hw) (hd.weaken (fun k q _ h => hs _ h)) ⟨Nat.le_trans hS.1 (by rw [e1]; exact hz), fun q h1 h2 => by rw [e1, hk q (Nat.lt_of_lt_of_le h1 hS.1) (fun z => h2 (hs q z))]; exact hS.2.1 q h1 h2, fun q hq => by
    rcases List.mem_append.mp hq with h | h
    · exact hS.2.2 q h
    · exact hs _ (hL q h)⟩ T' rfl X'
  exact ⟨t2, st t2 a1, b1⟩
theorem n_put {k q : Nat} {e1 : va_E} (hk : k < N) (hg : gq (g k) q) (hP : va_P G.1 vwCl ((wn N g f).set k (q, e1)) H) (hD : va_D A0 ((wn N g f).set k (q, e1))) : ∃ f1 : Nat → va_E, va_P G.1 vwCl (wn N g f1) H ∧ va_D A0 (wn N g f1) ∧ f1 k = e1 ∧ ∀ j, j ≠ k → f1 j = f j := by
  rw [wn_set hk hg] at hP hD
  exact ⟨va_up f k e1, hP, hD, by simp [va_up], fun j h => by simp [va_up, h]⟩
theorem n_ext {q : Nat} {e1 : va_E} (hP : va_P G.1 vwCl (wn N g f ++ [(q, e1)]) H) (hD : va_D A0 (wn N g f ++ [(q, e1)])) : ∃ (g1 : Nat → Nat) (f1 : Nat → va_E), va_P G.1 vwCl (wn (N + 1) g1 f1) H ∧ va_D A0 (wn (N + 1) g1 f1) ∧ gq (g1 N) q ∧ f1 N = e1 ∧ (∀ j, j < N → g1 j = g j) ∧ ∀ j, j < N → f1 j = f j := by
  rw [wn_push] at hP hD
  exact ⟨va_up g N q, va_up f N e1, hP, hD, (by show va_up g N q N = q; simp [va_up]), by simp [va_up], fun j h => by simp [va_up, Nat.ne_of_lt h], fun j h => by simp [va_up, Nat.ne_of_lt h]⟩
end MYN
theorem isT_gf {G : gW} {g g' : Nat → Nat} {f f' : Nat → va_E} {k ln sc : Nat} {sg sp : Nat → Int32} (h : isT G g f k ln sc sg sp) (hg : ∀ j, j < k + 3 → g' j = g j) (hf : ∀ j, k ≤ j → j < k + 3 → f' j = f j) : isT G g' f' k ln sc sg sp := by
  refine ⟨?_, (hf _ (by omega) (by omega)).trans h.2.1, (hf _ (by omega) (by omega)).trans h.2.2.1, h.2.2.2.1, h.2.2.2.2⟩
  rw [hf k (by omega) (by omega), h.1, hg (k + 1) (by omega), hg (k + 2) (by omega)]
theorem ta_ext {L : List Nat} {q n k s c : Nat} {g : Nat → Nat} (hL : L.length = n) (h : ∀ z, z < n → aL L z = some (g (k + s * z + c))) (hq : gq (g (k + s * n + c)) q) : ∀ z, z < n + 1 → aL (L ++ [q]) z = some (g (k + s * z + c)) := by
  intro z hz
  show (L ++ [q])[z]? = _
  by_cases e : z < n
  · rw [List.getElem?_append_left (by omega)]; exact h z e
  · rw [show z = n by omega, List.getElem?_append_right (by omega), hL, Nat.sub_self]
    exact congrArg some (Eq.symm hq)
theorem tx_ext {P : Nat → Prop} {n : Nat} (h : ∀ z, z < n → P z) (hn : P n) : ∀ z, z < n + 1 → P z := by
  intro z hz
  by_cases e : z = n
  · rw [e]; exact hn
  · exact h z (by omega)

