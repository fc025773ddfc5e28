/-! ===== the reference's hearing: its lists, its turns, its slips ===== -/
/-- a list laid out in an array -/
def isL (f : Nat → Int32) (l : List Nat) : Prop := ∀ k, k < l.length → f k = nI (l.getD k 0)
theorem isL_push {f : Nat → Int32} {l : List Nat} {p : Nat} (h : isL f l) : isL (upd f l.length (nI p)) (l ++ [p]) := by
  intro k hk
  rw [List.length_append] at hk
  have hk : k < l.length + 1 := hk
  by_cases e : k = l.length
  · rw [e, pk_us, List.getD_eq_getElem?_getD, List.getElem?_append_right (Nat.le_refl _), Nat.sub_self]; rfl
  · rw [pk_un e, h k (by omega), List.getD_eq_getElem?_getD, List.getD_eq_getElem?_getD, List.getElem?_append_left (by omega)]
/-- the shift that takes one out of it -/
theorem isL_er {f f3 : Nat → Int32} {l : List Nat} {a : Nat} (h : isL f l) (ha : a < l.length) (h1 : ∀ k, k < a → f3 k = f k) (h2 : ∀ k, a ≤ k → k < l.length - 1 → f3 k = f (k + 1)) : isL f3 (l.eraseIdx a) := by
  intro k hk
  rw [List.length_eraseIdx_of_lt ha] at hk
  rw [List.getD_eq_getElem?_getD, List.getElem?_eraseIdx]
  by_cases e : k < a
  · rw [if_pos e, h1 k e, h k (by omega), List.getD_eq_getElem?_getD]
  · rw [if_neg e, h2 k (by omega) hk, h (k + 1) (by omega), List.getD_eq_getElem?_getD]
theorem cnt_nth {x : Int32} {a : Nat} : ∀ n, a < cnt x n → cnt x ((lsB x n).getD a 0) = a := by
  intro n
  induction n with
  | zero => intro h; exact absurd h (Nat.not_lt_zero _)
  | succ n ih =>
    intro h
    have h : a < cnt x n + (if bt x n = true then 1 else 0) := h
    show cnt x ((lsB x n ++ (if bt x n = true then [n] else [])).getD a 0) = a
    rw [List.getD_eq_getElem?_getD]
    by_cases hb : bt x n = true
    · rw [if_pos hb] at h ⊢
      by_cases e : a < cnt x n
      · rw [List.getElem?_append_left (by rw [lsB_len]; exact e), ← List.getD_eq_getElem?_getD]
        exact ih e
      · have e2 : a = cnt x n := by omega
        rw [List.getElem?_append_right (by rw [lsB_len]; omega), lsB_len, e2, Nat.sub_self]
        rfl
    · rw [if_neg hb] at h ⊢
      rw [List.append_nil, ← List.getD_eq_getElem?_getD]
      exact ih (by omega)
theorem ls_push {x : Int32} {f : Nat → Int32} {i : Nat} (h : isL f (lsB x i)) (hb : bt x i = true) : isL (upd f (cnt x i) (nI i)) (lsB x (i + 1)) := by
  show isL _ (lsB x i ++ (if bt x i = true then [i] else []))
  rw [if_pos hb, ← lsB_len i]
  exact isL_push h
theorem ls_keep {x : Int32} {f : Nat → Int32} {i : Nat} (h : isL f (lsB x i)) (hb : ¬ bt x i = true) : isL f (lsB x (i + 1)) := by
  show isL _ (lsB x i ++ (if bt x i = true then [i] else []))
  rw [if_neg hb, List.append_nil]
  exact h
theorem cnt_y {x : Int32} {i : Nat} (h : bt x i = true) : cnt x (i + 1) = cnt x i + 1 := by
  show cnt x i + (if bt x i = true then 1 else 0) = _
  rw [if_pos h]
theorem cnt_n {x : Int32} {i : Nat} (h : ¬ bt x i = true) : cnt x (i + 1) = cnt x i := by
  show cnt x i + (if bt x i = true then 1 else 0) = _
  rw [if_neg h]; rfl
theorem drB_0 {box o0 : Int32} : drB box o0 0 = box := bt_ext (fun k hk => by
  show bt (box &&& ((0 : Int32) ^^^ (-1))) k = _
  rw [bt_and, bt_not hk, bt_zero, Bool.not_false, Bool.and_true])
/-- behind a draw the list holds what is left -/
theorem ls_draw {box o0 : Int32} {j : Nat} {f f3 : Nat → Int32} (hj : j < cnt box 30) (h : isL f (lsB (drB box o0 j) 30)) (h1 : ∀ k, k < lix (lotF o0 (j + 1)) (cnt (drB box o0 j) 30) → f3 k = f k) (h2 : ∀ k, lix (lotF o0 (j + 1)) (cnt (drB box o0 j) 30) ≤ k → k < cnt (drB box o0 j) 30 - 1 → f3 k = f (k + 1)) : isL f3 (lsB (drB box o0 (j + 1)) 30) := by
  have hc := dr_cnt (box := box) (o0 := o0) j (by omega)
  have hlt : lix (lotF o0 (j + 1)) (cnt (drB box o0 j) 30) < cnt (drB box o0 j) 30 := Nat.mod_lt _ (by omega)
  obtain ⟨p1, p2⟩ := dr_ok (box := box) (o0 := o0) (j := j) (by omega)
  rw [drB_s p1, lsB_del (by omega) p2 30 (by omega), if_pos p1]
  have e : cnt (drB box o0 j) (drP box o0 j) = lix (lotF o0 (j + 1)) (cnt (drB box o0 j) 30) := by
    unfold drP nthB
    exact cnt_nth 30 hlt
  rw [e]
  exact isL_er h (by rw [lsB_len]; exact hlt) h1 (by rw [lsB_len]; exact h2)
theorem ls_at {box o0 : Int32} {j : Nat} {f : Nat → Int32} (hj : j < cnt box 30) (h : isL f (lsB (drB box o0 j) 30)) : f (lix (lotF o0 (j + 1)) (cnt (drB box o0 j) 30)) = nI (drP box o0 j) := by
  have hc := dr_cnt (box := box) (o0 := o0) j (by omega)
  have hlt : lix (lotF o0 (j + 1)) (cnt (drB box o0 j) 30) < cnt (drB box o0 j) 30 := Nat.mod_lt _ (by omega)
  have h2 := h (lix (lotF o0 (j + 1)) (cnt (drB box o0 j) 30)) (by rw [lsB_len]; exact hlt)
  unfold drP nthB
  exact h2
theorem sar16 {x : Int32} : (x >>> ((16 : Int32) &&& 31)) &&& 65535 = nI (x.toBitVec.toNat / 65536) := by
  have hlt := x.toBitVec.isLt
  apply bt_ext
  intro k hk
  have e1 : bt (65535 : Int32) k = decide (k < 16) := by
    have h := bt_low (k := 16) (n := k) (by decide)
    rw [← h]; rfl
  have e2 : bt (nI (x.toBitVec.toNat / 65536)) k = x.toBitVec.getLsbD (16 + k) := by
    show (Int32.ofNat (x.toBitVec.toNat / 65536)).toBitVec.getLsbD k = _
    rw [Int32.toBitVec_ofNat', BitVec.getLsbD_ofNat, decide_eq_true hk, Bool.true_and, show 65536 = 2 ^ 16 from rfl, Nat.testBit_div_two_pow, Nat.add_comm k 16]
    rfl
  rw [bt_and, e1, e2]
  by_cases h16 : k < 16
  · rw [decide_eq_true h16, Bool.and_true]
    exact bt_shr (k := 16) (n := k) (by decide) (by omega)
  · rw [decide_eq_false h16, Bool.and_false]
    exact (bt_ge (a := x) (n := 16 + k) (by omega)).symm
theorem i32_lt0 {x : Int32} : x < 0 ↔ x ≤ -1 := by
  rw [Int32.lt_iff_toInt_lt, Int32.le_iff_toInt_le]
  have h1 : (0 : Int32).toInt = 0 := by decide
  have h2 : (-1 : Int32).toInt = -1 := by decide
  omega
/-! strikes by turns -/
theorem stX_none {pk : Nat → Int32 → Option Nat} {ca mi : Int32} {u : Nat} (h : pk (u % 2) (lfV ca mi (stX pk ca mi u)) = none) : stX pk ca mi (u + 1) = stX pk ca mi u := by
  show stN u (stX pk ca mi u) (pk (u % 2) (lfV ca mi (stX pk ca mi u))) = _
  rw [h]; rfl
theorem stX_some {pk : Nat → Int32 → Option Nat} {ca mi : Int32} {u p : Nat} (h : pk (u % 2) (lfV ca mi (stX pk ca mi u)) = some p) : stX pk ca mi (u + 1) = stN u (stX pk ca mi u) (some p) := by
  show stN u (stX pk ca mi u) (pk (u % 2) (lfV ca mi (stX pk ca mi u))) = _
  rw [h]
theorem stX_stop {pk : Nat → Int32 → Option Nat} {ca mi : Int32} {u : Nat} (h0 : pk 0 (lfV ca mi (stX pk ca mi u)) = none) (h1 : pk 1 (lfV ca mi (stX pk ca mi u)) = none) : ∀ d, stX pk ca mi (u + d) = stX pk ca mi u := by
  intro d
  induction d with
  | zero => rfl
  | succ d ih =>
    have h : ∀ s, s < 2 → pk s (lfV ca mi (stX pk ca mi u)) = none := fun s hs => by
      rcases (show s = 0 ∨ s = 1 by omega) with e | e
      · rw [e]; exact h0
      · rw [e]; exact h1
    rw [show u + (d + 1) = (u + d) + 1 from rfl, stX_none (by rw [ih]; exact h _ (Nat.mod_lt _ (by decide))), ih]
theorem lfV_mono {ca mi : Int32} {x : Int32 × Int32} {u : Nat} {o : Option Nat} : ∀ q, bt (lfV ca mi (stN u x o)) q = true → bt (lfV ca mi x) q = true := by
  intro q h
  cases o with
  | none => exact h
  | some p =>
    by_cases hq : q < 32
    · have h : bt (lfV ca mi (if u % 2 = 0 then (x.1 ||| b1 p, x.2) else (x.1, x.2 ||| b1 p))) q = true := h
      unfold lfV at h ⊢
      by_cases e : u % 2 = 0
      · rw [if_pos e] at h
        simp only [bt_and, bt_not hq, bt_or, Bool.and_eq_true, Bool.not_eq_true', Bool.or_eq_false_iff] at h ⊢
        exact ⟨⟨h.1.1, h.1.2.1⟩, h.2⟩
      · rw [if_neg e] at h
        simp only [bt_and, bt_not hq, bt_or, Bool.and_eq_true, Bool.not_eq_true', Bool.or_eq_false_iff] at h ⊢
        exact ⟨h.1, h.2.1⟩
    · rw [bt_ge (by omega)] at h; cases h
theorem lkP_mono {od : Nat → Nat} {lk : Nat → Int32} {lf lf' : Int32} {n : Nat} (h : lkP od lk lf n = none) (hs : ∀ q, bt lf' q = true → bt lf q = true) : lkP od lk lf' n = none :=
  (lkP_0 n).mpr (fun i hi hb => (lkP_0 n).mp h i hi (hs _ hb))
/-- where the turns stand -/
def tuI (pk : Nat → Int32 → Option Nat) (ca mi : Int32) (q u th : Nat) (x : Int32 × Int32) (a0 a1 : Nat) : Prop :=
  x = stX pk ca mi (min u (2 * q)) ∧ a0 = cnt x.1 32 ∧ a1 = cnt x.2 32 ∧ a0 ≤ (min u (2 * q) + 1) / 2 ∧ a1 ≤ min u (2 * q) / 2 ∧
  (a0 = (min u (2 * q) + 1) / 2 ∨ pk 0 (lfV ca mi x) = none) ∧ (a1 = min u (2 * q) / 2 ∨ pk 1 (lfV ca mi x) = none) ∧
  (th = 1 → 2 * q ≤ u ∨ pk ((u + 1) % 2) (lfV ca mi x) = none) ∧ (th = 2 → 2 * q ≤ u ∨ (pk 0 (lfV ca mi x) = none ∧ pk 1 (lfV ca mi x) = none))
section STI
variable {pk : Nat → Int32 → Option Nat} {ca mi : Int32} {q u th a0 a1 : Nat} {x : Int32 × Int32}
theorem tuI_0 : tuI pk ca mi q 0 0 (0, 0) 0 0 := by
  have e : min 0 (2 * q) = 0 := by omega
  refine ⟨by rw [e]; rfl, (cnt_0 32).symm, (cnt_0 32).symm, Nat.zero_le _, Nat.zero_le _, Or.inl (by omega), Or.inl (by omega), fun h => by omega, fun h => by omega⟩
theorem tuI_end (h : tuI pk ca mi q u 2 x a0 a1) : x = stX pk ca mi (2 * q) ∧ a0 = cnt x.1 32 ∧ a1 = cnt x.2 32 := by
  obtain ⟨h1, h2, h3, _, _, _, _, _, h9⟩ := h
  refine ⟨?_, h2, h3⟩
  by_cases hu : 2 * q ≤ u
  · rw [h1, show min u (2 * q) = 2 * q by omega]
  · rcases h9 rfl with z | ⟨z0, z1⟩
    · exact absurd z hu
    · have e : min u (2 * q) = u := by omega
      rw [e] at h1
      rw [h1] at z0 z1
      rw [h1, ← stX_stop z0 z1 (2 * q - u), show u + (2 * q - u) = 2 * q by omega]
/-- a side finds nobody -/
theorem tuI_fail (h : tuI pk ca mi q u th x a0 a1) (hth : th < 2) (hf : (if u % 2 = 0 then a0 else a1) = q ∨ pk (u % 2) (lfV ca mi x) = none) : tuI pk ca mi q (u + 1) (th + 1) x a0 a1 := by
  obtain ⟨h1, h2, h3, h4, h5, h6, h7, h8, h9⟩ := h
  by_cases hu : 2 * q ≤ u
  · have e : min u (2 * q) = 2 * q := by omega
    have e' : min (u + 1) (2 * q) = 2 * q := by omega
    rw [e] at h1 h4 h5 h6 h7
    refine ⟨by rw [e']; exact h1, h2, h3, by rw [e']; exact h4, by rw [e']; exact h5, by rw [e']; exact h6, by rw [e']; exact h7, fun _ => Or.inl (by omega), fun _ => Or.inl (by omega)⟩
  · have e : min u (2 * q) = u := by omega
    have e' : min (u + 1) (2 * q) = u + 1 := by omega
    rw [e] at h1 h4 h5 h6 h7
    have hn : pk (u % 2) (lfV ca mi x) = none := by
      rcases hf with z | z
      · exfalso
        by_cases e2 : u % 2 = 0
        · rw [if_pos e2] at z; omega
        · rw [if_neg e2] at z; omega
      · exact z
    have hx : x = stX pk ca mi (u + 1) := by
      rw [h1] at hn
      rw [stX_none hn]; exact h1
    rcases (show u % 2 = 0 ∨ u % 2 = 1 by omega) with e2 | e2
    · rw [e2] at hn
      refine ⟨by rw [e']; exact hx, h2, h3, by rw [e']; omega, by rw [e']; omega, Or.inr hn, ?_, fun _ => Or.inr (by rw [show (u + 1 + 1) % 2 = 0 by omega]; exact hn), fun z => Or.inr ⟨hn, ?_⟩⟩
      · rw [e', show (u + 1) / 2 = u / 2 by omega]; exact h7
      · rcases h8 (by omega) with z2 | z2
        · exact absurd z2 hu
        · rw [show (u + 1) % 2 = 1 by omega] at z2; exact z2
    · rw [e2] at hn
      refine ⟨by rw [e']; exact hx, h2, h3, by rw [e']; omega, by rw [e']; omega, ?_, Or.inr hn, fun _ => Or.inr (by rw [show (u + 1 + 1) % 2 = 1 by omega]; exact hn), fun z => Or.inr ⟨?_, hn⟩⟩
      · rw [e', show (u + 1 + 1) / 2 = (u + 1) / 2 by omega]; exact h6
      · rcases h8 (by omega) with z2 | z2
        · exact absurd z2 hu
        · rw [show (u + 1) % 2 = 0 by omega] at z2; exact z2
/-- a side strikes -/
theorem tuI_hit {p : Nat} (hm : ∀ s (x : Int32 × Int32) u o, pk s (lfV ca mi x) = none → pk s (lfV ca mi (stN u x o)) = none) (h : tuI pk ca mi q u th x a0 a1) (hp : p < 30) (hb0 : bt x.1 p = false) (hb1 : bt x.2 p = false) (hf : ¬ (if u % 2 = 0 then a0 else a1) = q) (hk : pk (u % 2) (lfV ca mi x) = some p) : tuI pk ca mi q (u + 1) 0 (stN u x (some p)) (if u % 2 = 0 then a0 + 1 else a0) (if u % 2 = 0 then a1 else a1 + 1) := by
  obtain ⟨h1, h2, h3, h4, h5, h6, h7, _, _⟩ := h
  have hu : ¬ 2 * q ≤ u := fun hu => by
    have e : min u (2 * q) = 2 * q := by omega
    rw [e] at h6 h7
    rcases (show u % 2 = 0 ∨ u % 2 = 1 by omega) with e2 | e2
    · rw [e2] at hk
      rw [if_pos e2] at hf
      rcases h6 with z | z
      · omega
      · rw [hk] at z; cases z
    · rw [e2] at hk
      rw [if_neg (by omega)] at hf
      rcases h7 with z | z
      · omega
      · rw [hk] at z; cases z
  have e : min u (2 * q) = u := by omega
  have e' : min (u + 1) (2 * q) = u + 1 := by omega
  rw [e] at h1 h4 h5 h6 h7
  have hx : stN u x (some p) = stX pk ca mi (u + 1) := by
    rw [h1] at hk
    rw [stX_some hk, ← h1]
  rcases (show u % 2 = 0 ∨ u % 2 = 1 by omega) with e2 | e2
  · have es : stN u x (some p) = (x.1 ||| b1 p, x.2) := if_pos e2
    rw [if_pos e2, if_pos e2]
    refine ⟨by rw [e']; exact hx, ?_, ?_, by rw [e']; omega, by rw [e']; omega, ?_, ?_, fun z => by omega, fun z => by omega⟩
    · rw [es, h2]; exact (cnt_or (by omega) hb0 32 (by omega) (by omega)).symm
    · rw [es]; exact h3
    · rw [e']
      rcases h6 with z | z
      · exact Or.inl (by omega)
      · rw [e2] at hk; rw [hk] at z; cases z
    · rw [e', show (u + 1) / 2 = u / 2 by omega]
      exact h7.imp id (hm _ _ _ _)
  · have es : stN u x (some p) = (x.1, x.2 ||| b1 p) := if_neg (by omega)
    rw [if_neg (by omega), if_neg (by omega)]
    refine ⟨by rw [e']; exact hx, ?_, ?_, by rw [e']; omega, by rw [e']; omega, ?_, ?_, fun z => by omega, fun z => by omega⟩
    · rw [es]; exact h2
    · rw [es, h3]; exact (cnt_or (by omega) hb1 32 (by omega) (by omega)).symm
    · rw [e', show (u + 1 + 1) / 2 = (u + 1) / 2 by omega]
      exact h6.imp id (hm _ _ _ _)
    · rw [e']
      rcases h7 with z | z
      · exact Or.inl (by omega)
      · rw [e2] at hk; rw [hk] at z; cases z
end STI
/-! the slips -/
def slV (box ca mi : Int32) (x : Int32 × Int32) (p : Nat) : Int32 :=
  if bt box p = true then (if bt ca p = true then (if bt mi p = true then 2 else if bt x.1 p = true then 3 else if bt x.2 p = true then 4 else 6) else 1) else 0
theorem slV_6 {box ca mi : Int32} {x : Int32 × Int32} {p : Nat} (hp : p < 32) (hc : bt ca p = true → bt box p = true) : slV box ca mi x p = 6 ↔ bt (lfV ca mi x) p = true := by
  unfold slV lfV
  simp only [bt_and, bt_not hp]
  cases h1 : bt box p with
  | false =>
    have h2 : bt ca p = false := by
      cases h : bt ca p with
      | false => rfl
      | true => rw [hc h] at h1; cases h1
    rw [h2]; simp
  | true =>
    cases bt ca p <;> cases bt mi p <;> cases bt x.1 p <;> cases bt x.2 p <;> decide
theorem slV_0 {box ca mi : Int32} {p : Nat} : slV box ca mi (0, 0) p = (if bt box p = true then (if bt ca p = true then (if bt mi p = true then 2 else 6) else 1) else 0) := by
  unfold slV
  rw [if_neg (c := bt (0, 0).1 p = true) (by show ¬ bt 0 p = true; rw [bt_zero]; decide), if_neg (c := bt (0, 0).2 p = true) (by show ¬ bt 0 p = true; rw [bt_zero]; decide)]
theorem slV_hit {box ca mi : Int32} {x : Int32 × Int32} {u p k : Nat} (hp : p < 32) (hk : k < 32) (hc : bt ca p = true → bt box p = true) (hl : bt (lfV ca mi x) p = true) : slV box ca mi (stN u x (some p)) k = if k = p then (if u % 2 = 0 then 3 else 4) else slV box ca mi x k := by
  have hl' : ((bt ca p = true ∧ bt mi p = false) ∧ bt x.1 p = false) ∧ bt x.2 p = false := by
    unfold lfV at hl
    simpa only [bt_and, bt_not hp, Bool.and_eq_true, Bool.not_eq_true'] using hl
  obtain ⟨⟨⟨l1, l2⟩, l3⟩, l4⟩ := hl'
  by_cases e : k = p
  · rw [if_pos e, e]
    by_cases e2 : u % 2 = 0
    · have es : stN u x (some p) = (x.1 ||| b1 p, x.2) := if_pos e2
      rw [es, if_pos e2]
      unfold slV
      rw [if_pos (hc l1), if_pos l1, if_neg (by rw [l2]; decide), if_pos (by show bt (x.1 ||| b1 p) p = true; rw [bt_or, bt_b1 hp, decide_eq_true hp, decide_eq_true rfl]; simp)]
    · have es : stN u x (some p) = (x.1, x.2 ||| b1 p) := if_neg e2
      rw [es, if_neg e2]
      unfold slV
      rw [if_pos (hc l1), if_pos l1, if_neg (by rw [l2]; decide), if_neg (by show ¬ bt x.1 p = true; rw [l3]; decide), if_pos (by show bt (x.2 ||| b1 p) p = true; rw [bt_or, bt_b1 hp, decide_eq_true hp, decide_eq_true rfl]; simp)]
  · rw [if_neg e]
    have hb : ∀ y : Int32, bt (y ||| b1 p) k = bt y k := fun y => by rw [bt_or, bt_b1 hp, decide_eq_false (show ¬ k = p from e), Bool.and_false, Bool.or_false]
    by_cases e2 : u % 2 = 0
    · have es : stN u x (some p) = (x.1 ||| b1 p, x.2) := if_pos e2
      rw [es]; unfold slV; rw [show bt (x.1 ||| b1 p, x.2).1 k = bt x.1 k from hb _]
    · have es : stN u x (some p) = (x.1, x.2 ||| b1 p) := if_neg e2
      rw [es]; unfold slV; rw [show bt (x.1, x.2 ||| b1 p).2 k = bt x.2 k from hb _]
/-- of whom a law tells a truth, asked of all -/
def whV (np : Nat) (nv : Nat → Int32 → Int64) (d : Int32) : Option (List (Int32 × Int32)) → Int32
  | none => d
  | some l => sO (fun p => decide (¬ (ev (nv p) l).headD 0 = 0)) np
/-- who serves and isn't kin and doesn't sit: the class's fit -/
theorem fit_ref {np : Nat} {nv : Nat → Int32 → Int64} {kin bz : Int32} {o : Option (List (Int32 × Int32))} (hnp : np ≤ 30) : whV np nv (((1 : Int32) <<< (nI np &&& 31)) - 1) o &&& ((kin ||| bz) ^^^ (-1)) = fitV np nv kin bz o := by
  apply bt_ext
  intro k hk
  cases o with
  | none =>
    show bt ((((1 : Int32) <<< (nI np &&& 31)) - 1) &&& ((kin ||| bz) ^^^ (-1))) k = bt (clV np kin bz) k
    unfold clV
    rw [bt_and, bt_and, bt_and, bt_not hk, bt_not hk, bt_not hk, bt_or, Bool.not_or, Bool.and_assoc]
  | some l =>
    show bt (sO (fun p => decide (¬ (ev (nv p) l).headD 0 = 0)) np &&& ((kin ||| bz) ^^^ (-1))) k = bt (sO (fun p => bt (clV np kin bz) p && decide (¬ (ev (nv p) l).headD 0 = 0)) np) k
    unfold clV
    rw [bt_and, bt_sO np k (by omega), bt_sO np k (by omega), bt_and, bt_and, bt_not hk, bt_not hk, bt_not hk, bt_or, Bool.not_or, bt_low (by omega)]
    cases decide (k < np) <;> cases decide (¬ (ev (nv k) l).headD 0 = 0) <;> cases bt kin k <;> cases bt bz k <;> rfl
theorem box_ref {np : Nat} {nv : Nat → Int32 → Int64} {kin bz roll tm fit c : Int32} {P : Nat → Nat → Int32} {o o' : Option (List (Int32 × Int32))} (hnp : np ≤ 30) (hf : fitV np nv kin bz o = fit) (ht : tm = sO (fun p => decide (¬ c = -1) && decide (¬ P p 1 = c)) np) :
    (((roll &&& whV np nv (((1 : Int32) <<< (nI np &&& 31)) - 1) o) &&& (whV np nv 0 o' ^^^ (-1))) &&& ((kin ||| bz) ^^^ (-1))) &&& (tm ^^^ (-1)) = boxV np nv fit roll (trdV np P c) o' := by
  have hh := fit_ref (nv := nv) (kin := kin) (bz := bz) (o := o) hnp
  rw [hf] at hh
  have hfn : ∀ k, np ≤ k → bt fit k = false := fun k hk => by
    rw [← hf]
    cases o with
    | none =>
      show bt (clV np kin bz) k = false
      unfold clV
      rw [bt_and, bt_and, bt_low (by omega), decide_eq_false (by omega), Bool.false_and, Bool.false_and]
    | some l =>
      show bt (sO (fun p => bt (clV np kin bz) p && decide (¬ (ev (nv p) l).headD 0 = 0)) np) k = false
      rw [bt_sO np k (by omega), decide_eq_false (by omega), Bool.false_and]
  apply bt_ext
  intro k hk
  have e1 : (bt (whV np nv (((1 : Int32) <<< (nI np &&& 31)) - 1) o) k && !(bt kin k || bt bz k)) = bt fit k := by
    rw [← hh, bt_and, bt_not hk, bt_or]
  unfold boxV liV
  rw [ht]
  unfold trdV
  rw [bt_and, bt_and, bt_and, bt_and, bt_and, bt_and, bt_and, bt_not hk, bt_not hk, bt_not hk, bt_not hk, bt_or, ← e1, bt_sO np k (by omega), bt_sO np k (by omega)]
  by_cases hkn : k < np
  · rw [decide_eq_true hkn]
    have e2 : bt (trV np nv 0 ((fit &&& roll) &&& sO (fun i => decide (c = -1) || decide (P i 1 = c)) np) o') k = (bt (whV np nv 0 o') k && (bt fit k && bt roll k && (decide (c = -1) || decide (P k 1 = c)))) := by
      cases o' with
      | none => show bt 0 k = (bt 0 k && _); rw [bt_zero]; rfl
      | some l =>
        show bt (sO (fun p => bt ((fit &&& roll) &&& sO (fun i => decide (c = -1) || decide (P i 1 = c)) np) p && decide (¬ (ev (nv p) l).headD 0 = 0)) np) k = (bt (sO (fun p => decide (¬ (ev (nv p) l).headD 0 = 0)) np) k && _)
        rw [bt_sO np k (by omega), bt_sO np k (by omega), bt_and, bt_and, bt_sO np k (by omega), decide_eq_true hkn, Bool.true_and, Bool.true_and, Bool.true_and, Bool.and_comm]
    rw [e2, ← e1]
    by_cases h1 : c = -1 <;> by_cases h2 : P k 1 = c <;> simp only [h1, h2, decide_true, decide_false, not_true, not_false_iff] <;> cases bt roll k <;> cases bt (whV np nv (((1 : Int32) <<< (nI np &&& 31)) - 1) o) k <;> cases bt (whV np nv 0 o') k <;> cases bt kin k <;> cases bt bz k <;> rfl
  · have h0 := hfn k (by omega)
    rw [← e1] at h0
    rw [decide_eq_false hkn, h0]
    cases hr : bt roll k <;> cases hw : bt (whV np nv (((1 : Int32) <<< (nI np &&& 31)) - 1) o) k <;> cases h3 : bt (whV np nv 0 o') k <;> cases h4 : bt kin k <;> cases h5 : bt bz k <;> rw [hw, h4, h5] at h0 <;> first | rfl | exact absurd h0 (by decide)
/-! ===== the reference's juries, by what was told ===== -/
def rL (ss : Nat → Int32) (z : Nat) : List (Int32 × Int32) := rdO (ss (54 * z + 469)).toNatClampNeg (fun k => ss (54 * z + 469 + k + 1))

