section MYL
variable {p : Program} {l : Launch} {e : Env} {R : Room} {s : State} {m : MethodId} {args : Array Value} {below : List Frame} {meth : Method} {c : Code} {H : Heap} {locs : List Loc} {cells slots : Nat} {Q : State → Prop}
variable {pc : Nat} {ls : Array Slot} {rest st0 : List Value} {a : Array Value} {H0 : Heap} {G : gW} {g : Nat → Nat} {A0 : Nat → Prop}
theorem W_q8 {k1 k2 : Nat} (h : ∀ Q9 : State → Prop, Q = Q9 → W p l e R s m args below meth c H locs k1 k2 Q9 (F0 m pc ls rest)) : W p l e R s m args below meth c H locs k1 k2 Q (F0 m pc ls rest) := h Q rfl
theorem W_q9 {k1 k2 : Nat} {Q9 : State → Prop} (h : Q = Q9) (w : W p l e R s m args below meth c H locs k1 k2 Q (F0 m pc ls rest)) : W p l e R s m args below meth c H locs k1 k2 Q9 (F0 m pc ls rest) := h ▸ w
theorem bL_calli (hsub : ∀ q, gA g q → A0 q) {post : Int32 → (Nat → va_E) → Prop} (hr : va_Run p l e R s m args below meth c H locs cells slots 0 0 (F0 m pc ls st0) rest (bQi G g post a) (gA g)) (hS : va_S A0 H0 H locs)
    (kk : ∀ (r : Int32) (f' : Nat → va_E) (H1 : Heap) (locs1 : List Loc), post r f' → va_P G.1 vwCl (wl g f') H1 → va_S A0 H0 H1 locs1 → W p l e R s m args below meth c H1 locs1 cells slots Q (F0 m (pc + 3) ls (.int r :: rest))) : W p l e R s m args below meth c H locs cells slots Q (F0 m pc ls st0) := by
  intro T hT X
  obtain ⟨v, st₀, t, T', L, h0, X', hL, e1, e2, ⟨⟨r, f', hv, hp, hw⟩, hz, hk⟩, st⟩ := hr T hT X
  cases hv
  rw [h0] at hz hk
  obtain ⟨t2, a1, b1⟩ := kk r f' T'.heap (locs ++ L) hp (by rw [e1]; exact hw) ⟨Nat.le_trans hS.1 (by rw [e1]; exact hz), fun q h1 h2 => by rw [e1, hk q (Nat.lt_of_lt_of_le h1 hS.1) (fun z => h2 (hsub q z))]; exact hS.2.1 q h1 h2, fun q hq => (List.mem_append.mp hq).elim (hS.2.2 q) (fun z => hsub _ (hL q z))⟩ T' rfl X'
  exact ⟨t2, st t2 a1, b1⟩
theorem bL_calll (hsub : ∀ q, gA g q → A0 q) {post : Int64 → (Nat → va_E) → Prop} (hr : va_Run p l e R s m args below meth c H locs cells slots 0 0 (F0 m pc ls st0) rest (bQl G g post a) (gA g)) (hS : va_S A0 H0 H locs)
    (kk : ∀ (r : Int64) (f' : Nat → va_E) (H1 : Heap) (locs1 : List Loc), post r f' → va_P G.1 vwCl (wl g f') H1 → va_S A0 H0 H1 locs1 → W p l e R s m args below meth c H1 locs1 cells slots Q (F0 m (pc + 3) ls (.long r :: rest))) : W p l e R s m args below meth c H locs cells slots Q (F0 m pc ls st0) := by
  intro T hT X
  obtain ⟨v, st₀, t, T', L, h0, X', hL, e1, e2, ⟨⟨r, f', hv, hp, hw⟩, hz, hk⟩, st⟩ := hr T hT X
  cases hv
  rw [h0] at hz hk
  obtain ⟨t2, a1, b1⟩ := kk r f' T'.heap (locs ++ L) hp (by rw [e1]; exact hw) ⟨Nat.le_trans hS.1 (by rw [e1]; exact hz), fun q h1 h2 => by rw [e1, hk q (Nat.lt_of_lt_of_le h1 hS.1) (fun z => h2 (hsub q z))]; exact hS.2.1 q h1 h2, fun q hq => (List.mem_append.mp hq).elim (hS.2.2 q) (fun z => hsub _ (hL q z))⟩ T' rfl X'
  exact ⟨t2, st t2 a1, b1⟩
end MYL
/-! the places, out of the order in which the cells are made -/
def sg (j : Nat) : Nat := if j = 12 then 15 else if 13 ≤ j ∧ j ≤ 15 then j - 1 else if j = 77 then 80 else if 78 ≤ j ∧ j ≤ 80 then j - 1 else j
def pi0 (k : Nat) : Nat := if k < 2 then k else if k < 12 then k + 117 else if k < 36 then k + 83 else if k < 129 then 2 + sg (k - 36) else if k < 222 then 129 + sg (k - 129) else if k < 315 then 222 + sg (k - 222) else k
def sg1 (j : Nat) : Nat := if j = 15 then 12 else if 12 ≤ j ∧ j ≤ 14 then j + 1 else if j = 80 then 77 else if 77 ≤ j ∧ j ≤ 79 then j + 1 else j
def pi1 (k : Nat) : Nat := if k < 2 then k else if k < 95 then 36 + sg1 (k - 2) else if k < 119 then k - 83 else if k < 129 then k - 117 else if k < 222 then 129 + sg1 (k - 129) else if k < 315 then 222 + sg1 (k - 222) else k
set_option maxRecDepth 20000 in
theorem pi_ok : ∀ k, k < 333 → pi0 k < 333 ∧ pi1 (pi0 k) = k := by decide +kernel
theorem sg_t {j : Nat} (h : ¬ (12 ≤ j ∧ j ≤ 15)) (h2 : ¬ (77 ≤ j ∧ j ≤ 80)) : sg j = j := by
  unfold sg
  rw [if_neg (by omega), if_neg (by omega), if_neg (by omega), if_neg (by omega)]
theorem pi_b0 {j : Nat} (h : j < 93) : pi0 (36 + j) = 2 + sg j := by
  unfold pi0
  rw [if_neg (by omega), if_neg (by omega), if_neg (by omega), if_pos (by omega), show 36 + j - 36 = j by omega]
theorem pi_b1 {j : Nat} (h : j < 93) : pi0 (129 + j) = 129 + sg j := by
  unfold pi0
  rw [if_neg (by omega), if_neg (by omega), if_neg (by omega), if_neg (by omega), if_pos (by omega), show 129 + j - 129 = j by omega]
theorem pi_b2 {j : Nat} (h : j < 93) : pi0 (222 + j) = 222 + sg j := by
  unfold pi0
  rw [if_neg (by omega), if_neg (by omega), if_neg (by omega), if_neg (by omega), if_neg (by omega), if_pos (by omega), show 222 + j - 222 = j by omega]
theorem pi_h {j : Nat} (h1 : 12 ≤ j) (h : j < 36) : pi0 j = j + 83 := by
  unfold pi0
  rw [if_neg (by omega), if_neg (by omega), if_pos (by omega)]
theorem isT_pi {G : gW} {g : Nat → Nat} {f : Nat → va_E} {π : Nat → Nat} {k k0 ln sc : Nat} {sg0 sp0 : Nat → Int32} (h : isT G g f k0 ln sc sg0 sp0) (e0 : π k = k0) (e1 : π (k + 1) = k0 + 1) (e2 : π (k + 2) = k0 + 2) : isT G (fun k => g (π k)) (fun k => f (π k)) k ln sc sg0 sp0 := by
  refine ⟨?_, ?_, ?_, h.2.2.2.1, h.2.2.2.2⟩
  · show f (π k) = eO 7 [.ref (g (π (k + 1))), .ref (g (π (k + 2))), .int (nI ln), .int (nI sc)]
    rw [e0, e1, e2]; exact h.1
  · show f (π (k + 1)) = _
    rw [e1]; exact h.2.1
  · show f (π (k + 2)) = _
    rw [e2]; exact h.2.2.1
theorem okH_pi {G : gW} {g : Nat → Nat} {f : Nat → va_E} {π : Nat → Nat} {k k0 : Nat} (h : nH G g f k0) (e0 : π k = k0) (e1 : π (k + 1) = k0 + 1) : okH G (fun k => g (π k)) (fun k => f (π k)) k := by
  refine ⟨0, 0, 0, 0, 0, 0, 0, 0, fun _ => 0, ?_, ?_, by omega⟩
  · show f (π k) = eO 3 [.ref (g (π (k + 1))), _, _, _, _, _, _, _, _]
    rw [e0, e1]; exact h.1
  · show f (π (k + 1)) = _
    rw [e1]; exact h.2
theorem nX_gf {G : gW} {g g' : Nat → Nat} {f f' : Nat → va_E} {k : Nat} (h : nX G g f k) (hg : ∀ j, j < k + 315 → g' j = g j) (hf : ∀ j, k ≤ j → j < k + 315 → f' j = f j) : nX G g' f' k := by
  obtain ⟨h0, h1, ⟨t, h2, h3⟩, h4, h5, h6, h7, h8, h9, h10, h11, h12, h13⟩ := h
  have ff : ∀ {o : Nat} {e : va_E}, o < 315 → f (k + o) = e → f' (k + o) = e := fun ho h => (hf _ (by omega) (by omega)).trans h
  refine ⟨?_, nC_gf h1 (fun j hj => hg j (by omega)) (fun j a c => hf j (by omega) (by omega)), ⟨t, ff (by decide) h2, fun z hz => ?_⟩, ff (by decide) h4, ?_, ff (by decide) h6, ff (by decide) h7, ?_, ff (by decide) h9, ff (by decide) h10, ff (by decide) h11, ff (by decide) h12, fun z hz => nB_gf (h13 z hz) (fun j hj => hg j (by omega)) (fun j a c => hf j (by omega) (by omega))⟩
  · rw [hf k (by omega) (by omega), h0, hg (k + 1) (by omega), hg (k + 2) (by omega), hg (k + 119) (by omega), hg (k + 120) (by omega), hg (k + 121) (by omega), hg (k + 123) (by omega), hg (k + 124) (by omega)]
  · rw [h3 z hz, hg _ (by omega)]
  · rw [hf (k + 121) (by omega) (by omega), h5, hg (k + 122) (by omega)]
  · rw [hf (k + 124) (by omega) (by omega), h8, hg (k + 125) (by omega), hg (k + 126) (by omega), hg (k + 127) (by omega), hg (k + 128) (by omega)]

