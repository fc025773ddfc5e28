theorem rR_ms {n : Nat} {c : Nat → Int32} {p mc : Nat} {mk : Nat → Int32} {sc : Nat} {sp : Nat → Int32} {op : Nat} {cm : Int32} {wu : Bool} (h : rdR n c p mc mk sc sp op cm wu) : mc + sc ≤ p := by
  obtain ⟨fl, st, us, o, a1, a2, a3, a4, a5, a6, a7, a8, a9, b1, b2, b3, b4⟩ := h
  exact b4
theorem rR_op8 {n : Nat} {c : Nat → Int32} {p mc : Nat} {mk : Nat → Int32} {sc : Nat} {sp : Nat → Int32} {op : Nat} {cm : Int32} {wu : Bool} (h : rdR n c p mc mk sc sp op cm wu) : op ≤ 8 := by
  obtain ⟨fl, st, us, o, a1, a2, a3, a4, a5, a6, a7, a8, a9, b1, b2, b3, b4⟩ := h
  exact b3
theorem popC_go {wa : Nat → Int32} {n : Nat} {r : Int32} (h : 0 < n) (hr : ¬ rnk (wa (n - 1)) < r) : popC r (stk wa n) = popC r (stk wa (n - 1)) := by
  rw [stk_t h]
  show (if r ≤ rnk (wa (n - 1)) then _ else _) = _
  rw [if_pos (Int32.not_lt.mp hr)]
theorem popC_st {wa : Nat → Int32} {n : Nat} {r : Int32} (h : 0 < n) (hr : rnk (wa (n - 1)) < r) : popC r (stk wa n) = stk wa n := by
  rw [stk_t h]
  show (if r ≤ rnk (wa (n - 1)) then _ else _) = _
  rw [if_neg (Int32.not_le.mpr hr)]
theorem popC_0 {wa : Nat → Int32} {n : Nat} {r : Int32} (h : ¬ 0 < n) : popC r (stk wa n) = stk wa n := by
  rw [show n = 0 by omega]; rfl
theorem poC_go {wa : Nat → Int32} {n : Nat} {r : Int32} {o : List Int32} (h : 0 < n) (hr : ¬ rnk (wa (n - 1)) < r) : poC r (stk wa n) o = poC r (stk wa (n - 1)) (-(wa (n - 1)) :: o) := by
  rw [stk_t h]
  show (if r ≤ rnk (wa (n - 1)) then _ else _) = _
  rw [if_pos (Int32.not_lt.mp hr)]
theorem poC_st {wa : Nat → Int32} {n : Nat} {r : Int32} {o : List Int32} (h : 0 < n) (hr : rnk (wa (n - 1)) < r) : poC r (stk wa n) o = o := by
  rw [stk_t h]
  show (if r ≤ rnk (wa (n - 1)) then _ else _) = _
  rw [if_neg (Int32.not_le.mpr hr)]
theorem poC_0 {wa : Nat → Int32} {n : Nat} {r : Int32} {o : List Int32} (h : ¬ 0 < n) : poC r (stk wa n) o = o := by
  rw [show n = 0 by omega]; rfl
section RS
variable {n : Nat} {c : Nat → Int32} {p mc mc9 : Nat} {mk mk9 : Nat → Int32} {sc sc9 : Nat} {sp sp9 : Nat → Int32} {op op9 : Nat} {cm cm9 : Int32} {wu wu9 bz : Bool}
theorem rR_su (h : rdR n c p mc mk sc sp op cm wu) (hw : wu = true) (hp : p < n) (h32 : ¬ c p = 32) (hd : ¬ inB 48 (c p) 57 = true) (ho : c p = 40 → ¬ 8 ≤ op) (hx : (¬ nam (c p) = -1 ∧ bz = true ∧ mc9 = mc ∧ mk9 = mk ∧ op9 = op ∧ cm9 = cm ∧ wu9 = false ∧ sc9 = sc + 1 ∧ sp9 = upd sp sc (-(c p))) ∨ ((c p) = 40 ∧ bz = true ∧ mc9 = mc + 1 ∧ mk9 = upd mk mc 40 ∧ op9 = op + 1 ∧ cm9 = cm &&& (((1 : Int32) <<< (nI (op + 1) &&& 31)) ^^^ (-1)) ∧ wu9 = wu ∧ sc9 = sc ∧ sp9 = sp) ∨ ((c p) = 33 ∧ bz = true ∧ mc9 = mc + 1 ∧ mk9 = upd mk mc 33 ∧ op9 = op ∧ cm9 = cm ∧ wu9 = wu ∧ sc9 = sc ∧ sp9 = sp) ∨ ((c p) = 45 ∧ bz = true ∧ mc9 = mc + 1 ∧ mk9 = upd mk mc 126 ∧ op9 = op ∧ cm9 = cm ∧ wu9 = wu ∧ sc9 = sc ∧ sp9 = sp) ∨ (nam (c p) = -1 ∧ ¬ (c p) = 40 ∧ ¬ (c p) = 33 ∧ ¬ (c p) = 45 ∧ bz = false ∧ mc9 = mc ∧ mk9 = mk ∧ op9 = op ∧ cm9 = cm ∧ wu9 = wu ∧ sc9 = sc ∧ sp9 = sp)) (hb : bz = true) : rdR n c (p + 1) mc9 mk9 sc9 sp9 op9 cm9 wu9 := by
  subst hw
  rcases hx with ⟨q1, _, e1, e2, e3, e4, e5, e6, e7⟩ | ⟨q1, _, e1, e2, e3, e4, e5, e6, e7⟩ | ⟨q1, _, e1, e2, e3, e4, e5, e6, e7⟩ | ⟨q1, _, e1, e2, e3, e4, e5, e6, e7⟩ | ⟨q1, q2, q3, q4, q5, _⟩
  · rw [e1, e2, e3, e4, e5, e6, e7]; exact rR_let h hp h32 hd q1
  · rw [e1, e2, e3, e4, e5, e6, e7]; exact rR_open h hp q1 (ho q1)
  · rw [e1, e2, e3, e4, e5, e6, e7]; exact rR_un (x := 2) h hp (Or.inl ⟨q1, rfl, rfl⟩)
  · rw [e1, e2, e3, e4, e5, e6, e7]; exact rR_un (x := 3) h hp (Or.inr ⟨q1, rfl, rfl⟩)
  · rw [q5] at hb; cases hb
theorem rR_suF (h : rdR n c p mc mk sc sp op cm wu) (hw : wu = true) (hp : p < n) (h32 : ¬ c p = 32) (hd : ¬ inB 48 (c p) 57 = true) (hx : (¬ nam (c p) = -1 ∧ bz = true ∧ mc9 = mc ∧ mk9 = mk ∧ op9 = op ∧ cm9 = cm ∧ wu9 = false ∧ sc9 = sc + 1 ∧ sp9 = upd sp sc (-(c p))) ∨ ((c p) = 40 ∧ bz = true ∧ mc9 = mc + 1 ∧ mk9 = upd mk mc 40 ∧ op9 = op + 1 ∧ cm9 = cm &&& (((1 : Int32) <<< (nI (op + 1) &&& 31)) ^^^ (-1)) ∧ wu9 = wu ∧ sc9 = sc ∧ sp9 = sp) ∨ ((c p) = 33 ∧ bz = true ∧ mc9 = mc + 1 ∧ mk9 = upd mk mc 33 ∧ op9 = op ∧ cm9 = cm ∧ wu9 = wu ∧ sc9 = sc ∧ sp9 = sp) ∨ ((c p) = 45 ∧ bz = true ∧ mc9 = mc + 1 ∧ mk9 = upd mk mc 126 ∧ op9 = op ∧ cm9 = cm ∧ wu9 = wu ∧ sc9 = sc ∧ sp9 = sp) ∨ (nam (c p) = -1 ∧ ¬ (c p) = 40 ∧ ¬ (c p) = 33 ∧ ¬ (c p) = 45 ∧ bz = false ∧ mc9 = mc ∧ mk9 = mk ∧ op9 = op ∧ cm9 = cm ∧ wu9 = wu ∧ sc9 = sc ∧ sp9 = sp)) (hb : ¬ bz = true) : nI (10 * p + 1) = rdA n c := by
  subst hw
  rcases hx with ⟨_, q, _⟩ | ⟨_, q, _⟩ | ⟨_, q, _⟩ | ⟨_, q, _⟩ | ⟨q1, q2, q3, q4, _⟩
  · exact absurd q hb
  · exact absurd q hb
  · exact absurd q hb
  · exact absurd q hb
  · exact rR_b2 h hp h32 hd q1 q2 q4 q3
theorem rR_go (h : rdR n c p mc mk sc sp op cm wu) (hw : ¬ wu = true) (hp : p < n) (h32 : ¬ c p = 32) (hx : ((c p) = 41 ∧ op = 0 ∧ bz = false ∧ mc9 = mc ∧ mk9 = mk ∧ op9 = op ∧ cm9 = cm ∧ wu9 = wu ∧ sc9 = sc ∧ sp9 = sp) ∨ ((c p) = 41 ∧ 0 < op ∧ bz = true ∧ mk9 = mk ∧ op9 = op - 1 ∧ cm9 = cm ∧ wu9 = wu ∧ ∃ mc1, mc9 = mc1 - 1 ∧ stk mk mc1 = popC 1 (stk mk mc) ∧ stk sp9 sc9 = poC 1 (stk mk mc) (stk sp sc) ∧ mc1 + sc9 = mc + sc) ∨ (¬ (c p) = 41 ∧ (rnk (c p) = 0 ∨ rnk (c p) = 6 ∨ (rnk (c p) = 3 ∧ hbt cm (nI op) = true)) ∧ bz = false ∧ mc9 = mc ∧ mk9 = mk ∧ op9 = op ∧ cm9 = cm ∧ wu9 = wu ∧ sc9 = sc ∧ sp9 = sp) ∨ (¬ (c p) = 41 ∧ ¬ rnk (c p) = 0 ∧ ¬ rnk (c p) = 6 ∧ ¬ (rnk (c p) = 3 ∧ hbt cm (nI op) = true) ∧ bz = true ∧ op9 = op ∧ wu9 = true ∧ ∃ mc1, mc9 = mc1 + 1 ∧ mk9 = upd mk mc1 (c p) ∧ stk mk mc1 = popC (rnk (c p)) (stk mk mc) ∧ stk sp9 sc9 = poC (rnk (c p)) (stk mk mc) (stk sp sc) ∧ mc1 + sc9 = mc + sc ∧ ((rnk (c p) = 3 ∧ cm9 = cm ||| ((1 : Int32) <<< (nI op &&& 31))) ∨ (rnk (c p) < 3 ∧ cm9 = cm &&& (((1 : Int32) <<< (nI op &&& 31)) ^^^ (-1))) ∨ (¬ rnk (c p) = 3 ∧ ¬ rnk (c p) < 3 ∧ cm9 = cm)))) (hb : bz = true) : rdR n c (p + 1) mc9 mk9 sc9 sp9 op9 cm9 wu9 := by
  have hw := eq_false_of_ne_true hw
  subst hw
  have ho : op < 32 := by
    obtain ⟨fl, st, us, o, a1, a2, a3, a4, a5, a6, a7, a8, a9, b1, b2, b3, b4⟩ := h
    omega
  rcases hx with ⟨_, _, q, _⟩ | ⟨q1, q2, _, e1, e2, e3, e4, mc1, e5, h1, h2, h3⟩ | ⟨_, _, q, _⟩ | ⟨q1, q2, q3, q4, _, e1, e2, mc1, e3, e4, h1, h2, h3, h4⟩
  · rw [q] at hb; cases hb
  · rw [e1, e2, e3, e4, e5]; exact (rR_cl h hp q1 q2 h1 h2 h3).2
  · rw [q] at hb; cases hb
  · rw [hbt_bt ho] at q4
    rw [e1, e2, e3, e4]; exact rR_op h hp h32 q1 q2 q3 q4 h1 h2 h3 h4
theorem rR_goF (h : rdR n c p mc mk sc sp op cm wu) (hw : ¬ wu = true) (hp : p < n) (h32 : ¬ c p = 32) (hx : ((c p) = 41 ∧ op = 0 ∧ bz = false ∧ mc9 = mc ∧ mk9 = mk ∧ op9 = op ∧ cm9 = cm ∧ wu9 = wu ∧ sc9 = sc ∧ sp9 = sp) ∨ ((c p) = 41 ∧ 0 < op ∧ bz = true ∧ mk9 = mk ∧ op9 = op - 1 ∧ cm9 = cm ∧ wu9 = wu ∧ ∃ mc1, mc9 = mc1 - 1 ∧ stk mk mc1 = popC 1 (stk mk mc) ∧ stk sp9 sc9 = poC 1 (stk mk mc) (stk sp sc) ∧ mc1 + sc9 = mc + sc) ∨ (¬ (c p) = 41 ∧ (rnk (c p) = 0 ∨ rnk (c p) = 6 ∨ (rnk (c p) = 3 ∧ hbt cm (nI op) = true)) ∧ bz = false ∧ mc9 = mc ∧ mk9 = mk ∧ op9 = op ∧ cm9 = cm ∧ wu9 = wu ∧ sc9 = sc ∧ sp9 = sp) ∨ (¬ (c p) = 41 ∧ ¬ rnk (c p) = 0 ∧ ¬ rnk (c p) = 6 ∧ ¬ (rnk (c p) = 3 ∧ hbt cm (nI op) = true) ∧ bz = true ∧ op9 = op ∧ wu9 = true ∧ ∃ mc1, mc9 = mc1 + 1 ∧ mk9 = upd mk mc1 (c p) ∧ stk mk mc1 = popC (rnk (c p)) (stk mk mc) ∧ stk sp9 sc9 = poC (rnk (c p)) (stk mk mc) (stk sp sc) ∧ mc1 + sc9 = mc + sc ∧ ((rnk (c p) = 3 ∧ cm9 = cm ||| ((1 : Int32) <<< (nI op &&& 31))) ∨ (rnk (c p) < 3 ∧ cm9 = cm &&& (((1 : Int32) <<< (nI op &&& 31)) ^^^ (-1))) ∨ (¬ rnk (c p) = 3 ∧ ¬ rnk (c p) < 3 ∧ cm9 = cm)))) (hb : ¬ bz = true) : nI (10 * p + 1) = rdA n c := by
  have hw := eq_false_of_ne_true hw
  subst hw
  have ho : op < 32 := by
    obtain ⟨fl, st, us, o, a1, a2, a3, a4, a5, a6, a7, a8, a9, b1, b2, b3, b4⟩ := h
    omega
  rcases hx with ⟨q1, q2, _⟩ | ⟨_, _, q, _⟩ | ⟨q1, q2, _⟩ | ⟨_, _, _, _, q, _⟩
  · exact rR_c0 h hp q1 q2
  · exact absurd q hb
  · rw [hbt_bt ho] at q2
    exact rR_ob h hp h32 q1 q2
  · exact absurd q hb
end RS
set_option maxHeartbeats 4000000 in
set_option maxRecDepth 100000 in
theorem g_rankE (l : Launch) (G : gW) (g : Nat → Nat) (hg : gOK g) (f : Nat → va_E) (n : Int32)   : Met l yX7_rank (wsT yX7_rank cX7_rank 1 (some .int)) ({ frames := 0, cells := 0, slots := 0, locals := 0 }) (bP G g f [.int n]) (rQi (fun z9 => z9 = rnk n)) 0 0 fr0 := by
  refine Met.ofW (cc := cX7_rank) (maxL := 1) (ret := (some .int)) (by decide) rfl ?_
  intro p e s m args below meth c s₁ B hml hv
  obtain ⟨rfl, hP, hG⟩ := hv
  have hx := B.exec
  have hb := B.bytes
  have hr := B.returns
  have hts := my_hts (atoms_spec (ws := wsT yX7_rank cX7_rank 1 (some .int)) B.pre)
  have hown : s.vm.findClass RX7 = some m.cls := findClass_of_methodNamed B.named
  have hlocks := B.notSynchronized
  have hl := lv_entry ([.int n]) (n := 1) (Nat.le_of_ble_eq_true rfl)
  rw [lg_entry_eq]
  generalize (lg_sl ([.int n]) ++ List.replicate (1 - (lg_sl ([.int n])).length) Slot.unset).toArray = ls at hl ⊢
  have hl : lv_has ls 1 [(0, .int n)] := hl
  refine W_q8 (fun Q9 hQ9 => ?_)
  refine lv_iload_n hx hb dX7_rank_0 rfl (lv_at hl 0 rfl) ?_
  by_cases e_33 : n = 33
  · refine my_bei e_33 ?_
    refine lv_lookup (off := 109) (tgt := 110) hx hb dX7_rank_1 (by decide) (by decide) (by decide) ?_
    refine lv_bipush (v := 6) hx hb dX7_rank_110 (by decide) ?_
    refine W_q9 hQ9 ?_
    exact W.iret (v := 6) hx hb hr (fun _ hT9 _ => ⟨_, rfl, (by rw [e_33]; decide), hT9⟩) (fun _ h => absurd h List.not_mem_nil) dX7_rank_112
  by_cases e_38 : n = 38
  · refine my_bei e_38 ?_
    refine lv_lookup (off := 101) (tgt := 102) hx hb dX7_rank_1 (by decide) (by decide) (by decide) ?_
    refine lv_iconst (v := 2) hx hb dX7_rank_102 (by decide) ?_
    refine W_q9 hQ9 ?_
    exact W.iret (v := 2) hx hb hr (fun _ hT9 _ => ⟨_, rfl, (by rw [e_38]; decide), hT9⟩) (fun _ h => absurd h List.not_mem_nil) dX7_rank_103
  by_cases e_42 : n = 42
  · refine my_bei e_42 ?_
    refine lv_lookup (off := 107) (tgt := 108) hx hb dX7_rank_1 (by decide) (by decide) (by decide) ?_
    refine lv_iconst (v := 5) hx hb dX7_rank_108 (by decide) ?_
    refine W_q9 hQ9 ?_
    exact W.iret (v := 5) hx hb hr (fun _ hT9 _ => ⟨_, rfl, (by rw [e_42]; decide), hT9⟩) (fun _ h => absurd h List.not_mem_nil) dX7_rank_109
  by_cases e_43 : n = 43
  · refine my_bei e_43 ?_
    refine lv_lookup (off := 105) (tgt := 106) hx hb dX7_rank_1 (by decide) (by decide) (by decide) ?_
    refine lv_iconst (v := 4) hx hb dX7_rank_106 (by decide) ?_
    refine W_q9 hQ9 ?_
    exact W.iret (v := 4) hx hb hr (fun _ hT9 _ => ⟨_, rfl, (by rw [e_43]; decide), hT9⟩) (fun _ h => absurd h List.not_mem_nil) dX7_rank_107
  by_cases e_45 : n = 45
  · refine my_bei e_45 ?_
    refine lv_lookup (off := 105) (tgt := 106) hx hb dX7_rank_1 (by decide) (by decide) (by decide) ?_
    refine lv_iconst (v := 4) hx hb dX7_rank_106 (by decide) ?_
    refine W_q9 hQ9 ?_
    exact W.iret (v := 4) hx hb hr (fun _ hT9 _ => ⟨_, rfl, (by rw [e_45]; decide), hT9⟩) (fun _ h => absurd h List.not_mem_nil) dX7_rank_107
  by_cases e_47 : n = 47
  · refine my_bei e_47 ?_
    refine lv_lookup (off := 107) (tgt := 108) hx hb dX7_rank_1 (by decide) (by decide) (by decide) ?_
    refine lv_iconst (v := 5) hx hb dX7_rank_108 (by decide) ?_
    refine W_q9 hQ9 ?_
    exact W.iret (v := 5) hx hb hr (fun _ hT9 _ => ⟨_, rfl, (by rw [e_47]; decide), hT9⟩) (fun _ h => absurd h List.not_mem_nil) dX7_rank_109
  by_cases e_60 : n = 60
  · refine my_bei e_60 ?_
    refine lv_lookup (off := 103) (tgt := 104) hx hb dX7_rank_1 (by decide) (by decide) (by decide) ?_
    refine lv_iconst (v := 3) hx hb dX7_rank_104 (by decide) ?_
    refine W_q9 hQ9 ?_
    exact W.iret (v := 3) hx hb hr (fun _ hT9 _ => ⟨_, rfl, (by rw [e_60]; decide), hT9⟩) (fun _ h => absurd h List.not_mem_nil) dX7_rank_105
  by_cases e_61 : n = 61
  · refine my_bei e_61 ?_
    refine lv_lookup (off := 103) (tgt := 104) hx hb dX7_rank_1 (by decide) (by decide) (by decide) ?_
    refine lv_iconst (v := 3) hx hb dX7_rank_104 (by decide) ?_
    refine W_q9 hQ9 ?_
    exact W.iret (v := 3) hx hb hr (fun _ hT9 _ => ⟨_, rfl, (by rw [e_61]; decide), hT9⟩) (fun _ h => absurd h List.not_mem_nil) dX7_rank_105
  by_cases e_62 : n = 62
  · refine my_bei e_62 ?_
    refine lv_lookup (off := 103) (tgt := 104) hx hb dX7_rank_1 (by decide) (by decide) (by decide) ?_
    refine lv_iconst (v := 3) hx hb dX7_rank_104 (by decide) ?_
    refine W_q9 hQ9 ?_
    exact W.iret (v := 3) hx hb hr (fun _ hT9 _ => ⟨_, rfl, (by rw [e_62]; decide), hT9⟩) (fun _ h => absurd h List.not_mem_nil) dX7_rank_105
  by_cases e_124 : n = 124
  · refine my_bei e_124 ?_
    refine lv_lookup (off := 99) (tgt := 100) hx hb dX7_rank_1 (by decide) (by decide) (by decide) ?_
    refine lv_iconst (v := 1) hx hb dX7_rank_100 (by decide) ?_
    refine W_q9 hQ9 ?_
    exact W.iret (v := 1) hx hb hr (fun _ hT9 _ => ⟨_, rfl, (by rw [e_124]; decide), hT9⟩) (fun _ h => absurd h List.not_mem_nil) dX7_rank_101
  by_cases e_126 : n = 126
  · refine my_bei e_126 ?_
    refine lv_lookup (off := 109) (tgt := 110) hx hb dX7_rank_1 (by decide) (by decide) (by decide) ?_
    refine lv_bipush (v := 6) hx hb dX7_rank_110 (by decide) ?_
    refine W_q9 hQ9 ?_
    exact W.iret (v := 6) hx hb hr (fun _ hT9 _ => ⟨_, rfl, (by rw [e_126]; decide), hT9⟩) (fun _ h => absurd h List.not_mem_nil) dX7_rank_112
  refine lv_lookup (off := 112) (tgt := 113) hx hb dX7_rank_1 (by decide) (by show Op.lookupswitch.offset [(33, 109), (38, 101), (42, 107), (43, 105), (45, 105), (47, 107), (60, 103), (61, 103), (62, 103), (124, 99), (126, 109)] 112 _ = 112; rw [lv_osw (a := 33) e_33 (by decide), lv_osw (a := 38) e_38 (by decide), lv_osw (a := 42) e_42 (by decide), lv_osw (a := 43) e_43 (by decide), lv_osw (a := 45) e_45 (by decide), lv_osw (a := 47) e_47 (by decide), lv_osw (a := 60) e_60 (by decide), lv_osw (a := 61) e_61 (by decide), lv_osw (a := 62) e_62 (by decide), lv_osw (a := 124) e_124 (by decide), lv_osw (a := 126) e_126 (by decide)]; rfl) (by decide) ?_
  refine lv_iconst (v := 0) hx hb dX7_rank_113 (by decide) ?_
  refine W_q9 hQ9 ?_
  exact W.iret (v := 0) hx hb hr (fun _ hT9 _ => ⟨_, rfl, (by unfold rnk; rw [if_neg e_33, if_neg e_38, if_neg e_42, if_neg e_43, if_neg e_45, if_neg e_47, if_neg e_60, if_neg e_61, if_neg e_62, if_neg e_124, if_neg e_126]), hT9⟩) (fun _ h => absurd h List.not_mem_nil) dX7_rank_114
set_option maxHeartbeats 4000000 in
set_option maxRecDepth 100000 in
theorem e_digitsEndE (l : Launch) (G : gW) (g : Nat → Nat) (hg : gOK g) (f : Nat → va_E) (k : Nat) (ln : Nat) (sc : Nat) (sg : Nat → Int32) (q : Nat) (htx : f k = eO 7 [.ref (g (k + 1)), .ref (g (k + 2)), .int (nI ln), .int (nI sc)]) (hsx : f (k + 1) = eI G 50 sg) (hk3 : k + 2 < 333) (hln : ln ≤ 50) (hsc : sc ≤ 50) (hq : q ≤ ln) : Met l yX4_digitsEnd (wsT yX4_digitsEnd cX4_digitsEnd 3 (some .int)) ({ frames := 1, cells := 0, slots := 0, locals := 21 }) (bP G g f [.ref (g k), .int (nI q)]) (rQi (fun z9 => ∃ e9 : Nat, z9 = nI e9 ∧ (q ≤ e9) ∧ (e9 ≤ ln) ∧ (∀ j, q ≤ j → j < e9 → inB 48 (sg j) 57 = true) ∧ (e9 < ln → ¬ inB 48 (sg e9) 57 = true))) 0 0 fr0 := by
  refine Met.ofW (cc := cX4_digitsEnd) (maxL := 3) (ret := (some .int)) (by decide) rfl ?_
  intro p e s m args below meth c s₁ B hml hv
  obtain ⟨rfl, hP, hG⟩ := hv
  have hx := B.exec
  have hb := B.bytes
  have hr := B.returns
  have hts := my_hts (atoms_spec (ws := wsT yX4_digitsEnd cX4_digitsEnd 3 (some .int)) B.pre)
  have hown : s.vm.findClass RX4 = some m.cls := findClass_of_methodNamed B.named
  have hlocks := B.notSynchronized
  have hl := lv_entry ([.ref (g k), .int (nI q)]) (n := 3) (Nat.le_of_ble_eq_true rfl)
  rw [lg_entry_eq]
  generalize (lg_sl ([.ref (g k), .int (nI q)]) ++ List.replicate (3 - (lg_sl ([.ref (g k), .int (nI q)])).length) Slot.unset).toArray = ls at hl ⊢
  have hl : lv_has ls 3 [(0, .ref (g k)), (1, .int (nI q))] := hl
  refine W_q8 (fun Q9 hQ9 => ?_)
  refine lv_iload_n hx hb dX4_digitsEnd_0 rfl (lv_at hl 1 rfl) ?_
  refine lv_istore_n (lv' := [(2, .int (nI q)), (0, .ref (g k)), (1, .int (nI q))]) hx hb dX4_digitsEnd_1 rfl hl (by decide) rfl (fun ls hl => ?_)
  have key1 : ∀ (n9_1 : Nat) (e1 : Nat) (ls : Array Slot), (q ≤ e1) → (e1 ≤ ln) → (∀ j, q ≤ j → j < e1 → inB 48 (sg j) 57 = true) → ln - e1 < n9_1 → lv_has ls 3 [(0, .ref (g k)), (2, .int (nI e1))] → W p l e (headSpec (wsT yX4_digitsEnd cX4_digitsEnd 3 (some .int)) ({ frames := 1, cells := 0, slots := 0, locals := 21 })).room s m ([.ref (g k), .int (nI q)] : List Value).toArray below meth c s.heap [] 0 0 Q9 (F0 m 2 ls []) := by
    intro n9_1
    induction n9_1 with
    | zero => intro e1 ls h1 h2 h3 hn9_1; exact absurd hn9_1 (Nat.not_lt_zero _)
    | succ n9_1 ih_1 =>
      intro e1 ls h1 h2 h3 hn9_1 hl
      refine lv_iload_n hx hb dX4_digitsEnd_2 rfl (lv_at hl 1 rfl) ?_
      refine lv_aload_n hx hb dX4_digitsEnd_3 rfl (lv_at hl 0 rfl) ?_
      refine rd_calli (va_runV (As := []) (rest := [.int (nI e1)]) ⟨hx, hb, hml, hown, hts⟩ (t_length l G g hg f k ln sc htx (by first | assumption | omega | decide) (by first | assumption | omega | decide) (by first | assumption | omega | decide)) (my_cwV hts ok_X8_length w_294 rfl rfl ⟨Nat.le_of_ble_eq_true rfl, Nat.le_of_ble_eq_true rfl⟩) ⟨bP.blind, va_recv hG.1 hP (ci := 7) (q0 := k) rfl (wl_at (by omega) htx), fun U hU hW => ⟨rfl, by rw [hU]; exact hP, kG.warm hW hG⟩⟩ rfl rfl hl.1 rfl (lv_room (Nat.le_of_ble_eq_true rfl)) dX4_digitsEnd_4 ⟨Nat.le_of_ble_eq_true rfl, Nat.le_of_ble_eq_true rfl⟩) (fun r hr9 => ?_)
      subst hr9
      refine lv_icmp_ge (tgt := 27) hx hb dX4_digitsEnd_7 (by decide) (fun c_7 => ?_) (fun c_7 => ?_)
      · refine lv_iload_n hx hb dX4_digitsEnd_27 rfl (lv_at hl 1 rfl) ?_
        refine W_q9 hQ9 ?_
        exact W.iret (v := nI e1) hx hb hr (fun _ hT9 _ => ⟨_, rfl, (⟨e1, rfl, h1, h2, h3, fun z => absurd ((nI_leI (by omega) (by omega)).mp c_7) (by omega)⟩), hT9⟩) (fun _ h => absurd h List.not_mem_nil) dX4_digitsEnd_28
      · have hlt : e1 < ln := Nat.not_le.mp (fun z => c_7 (nI_le z (by omega)))
        refine lv_aload_n hx hb dX4_digitsEnd_10 rfl (lv_at hl 0 rfl) ?_
        refine lv_iload_n hx hb dX4_digitsEnd_11 rfl (lv_at hl 1 rfl) ?_
        refine rd_calli (va_runV (As := [.int (nI e1)]) (rest := []) ⟨hx, hb, hml, hown, hts⟩ (t_signAt l G g hg f k ln sc sg (nI e1) htx hsx (by first | assumption | omega | decide) (by first | assumption | omega | decide) (by first | assumption | omega | decide)) (my_cwV hts ok_X8_signAt w_298 rfl rfl ⟨Nat.le_of_ble_eq_true rfl, Nat.le_of_ble_eq_true rfl⟩) ⟨bP.blind, va_recv hG.1 hP (ci := 7) (q0 := k) rfl (wl_at (by omega) htx), fun U hU hW => ⟨rfl, by rw [hU]; exact hP, kG.warm hW hG⟩⟩ rfl rfl hl.1 rfl (lv_room (Nat.le_of_ble_eq_true rfl)) dX4_digitsEnd_12 ⟨Nat.le_of_ble_eq_true rfl, Nat.le_of_ble_eq_true rfl⟩) (fun r hr9 => ?_)
        subst hr9
        refine my_bei (v := sg e1) (by rw [if_pos (inN_n hlt (by omega)), nI_clamp (by omega)]) ?_
        refine rd_calli (va_runS (As := [.int (sg e1)]) (rest := []) ⟨hx, hb, hml, hown, hts⟩ (g_isDigit l G g hg f (sg e1)  ) (my_cwS hts ok_X4_isDigit w_302 rfl rfl ⟨Nat.le_of_ble_eq_true rfl, Nat.le_of_ble_eq_true rfl⟩) ⟨bP.blind, fun U hU hW => ⟨rfl, by rw [hU]; exact hP, kG.warm hW hG⟩⟩ rfl rfl hl.1 rfl (lv_room (Nat.le_of_ble_eq_true rfl)) dX4_digitsEnd_15 ⟨Nat.le_of_ble_eq_true rfl, Nat.le_of_ble_eq_true rfl⟩) (fun r hr9 => ?_)
        subst hr9
        refine my_ifeq (tgt := 27) hx hb dX4_digitsEnd_18 (by decide) (fun c_18 => ?_) (fun c_18 => ?_)
        · refine lv_iload_n hx hb dX4_digitsEnd_27 rfl (lv_at hl 1 rfl) ?_
          refine W_q9 hQ9 ?_
          exact W.iret (v := nI e1) hx hb hr (fun _ hT9 _ => ⟨_, rfl, (⟨e1, rfl, h1, h2, h3, fun _ => c_18⟩), hT9⟩) (fun _ h => absurd h List.not_mem_nil) dX4_digitsEnd_28
        · refine lv_iinc (v := nI (e1 + 1)) (lv' := [(2, .int (nI (e1 + 1))), (0, .ref (g k))]) hx hb dX4_digitsEnd_21 hl (k := 1) rfl (nI_1 e1) (by decide) rfl (fun ls hl => ?_)
          refine lv_goto (tgt := 2) hx hb dX4_digitsEnd_24 (by decide) ?_
          exact ih_1 (e1 + 1) _ (by omega) (by omega) (fun j h8 h9 => if e9 : j = e1 then (by rw [e9]; exact c_18) else h3 j h8 (by omega)) (by omega) (lv_sub hl [1, 0] rfl)
  exact key1 (ln + 1) q _ (Nat.le_refl _) (hq) (fun j h8 h9 => absurd h8 (by omega)) (by omega) (lv_sub hl [1, 0] rfl)
set_option maxHeartbeats 4000000 in
set_option maxRecDepth 100000 in
theorem e_numberInE (l : Launch) (G : gW) (g : Nat → Nat) (hg : gOK g) (f : Nat → va_E) (k : Nat) (ln : Nat) (sc : Nat) (sg : Nat → Int32) (q : Nat) (w : Nat) (htx : f k = eO 7 [.ref (g (k + 1)), .ref (g (k + 2)), .int (nI ln), .int (nI sc)]) (hsx : f (k + 1) = eI G 50 sg) (hk3 : k + 2 < 333) (hln : ln ≤ 50) (hsc : sc ≤ 50) (hqw : q ≤ w) (hw : w ≤ ln) : Met l yX4_numberIn (wsT yX4_numberIn cX4_numberIn 5 (some .int)) ({ frames := 1, cells := 0, slots := 0, locals := 21 }) (bP G g f [.ref (g k), .int (nI q), .int (nI w)]) (rQi (fun z9 => z9 = nuF sg q (w - q))) 0 0 fr0 := by
  refine Met.ofW (cc := cX4_numberIn) (maxL := 5) (ret := (some .int)) (by decide) rfl ?_
  intro p e s m args below meth c s₁ B hml hv
  obtain ⟨rfl, hP, hG⟩ := hv
  have hx := B.exec
  have hb := B.bytes
  have hr := B.returns
  have hts := my_hts (atoms_spec (ws := wsT yX4_numberIn cX4_numberIn 5 (some .int)) B.pre)
  have hown : s.vm.findClass RX4 = some m.cls := findClass_of_methodNamed B.named
  have hlocks := B.notSynchronized
  have hl := lv_entry ([.ref (g k), .int (nI q), .int (nI w)]) (n := 5) (Nat.le_of_ble_eq_true rfl)
  rw [lg_entry_eq]
  generalize (lg_sl ([.ref (g k), .int (nI q), .int (nI w)]) ++ List.replicate (5 - (lg_sl ([.ref (g k), .int (nI q), .int (nI w)])).length) Slot.unset).toArray = ls at hl ⊢
  have hl : lv_has ls 5 [(0, .ref (g k)), (1, .int (nI q)), (2, .int (nI w))] := hl
  refine W_q8 (fun Q9 hQ9 => ?_)
  refine lv_iconst (v := 0) hx hb dX4_numberIn_0 (by decide) ?_
  refine lv_istore_n (lv' := [(3, .int 0), (0, .ref (g k)), (1, .int (nI q)), (2, .int (nI w))]) hx hb dX4_numberIn_1 rfl hl (by decide) rfl (fun ls hl => ?_)
  refine lv_iload_n hx hb dX4_numberIn_2 rfl (lv_at hl 2 rfl) ?_
  refine lv_istore (lv' := [(4, .int (nI q)), (3, .int 0), (0, .ref (g k)), (1, .int (nI q)), (2, .int (nI w))]) hx hb dX4_numberIn_3 hl (by decide) rfl (fun ls hl => ?_)
  have key1 : ∀ (n9_1 : Nat) (e1 : Nat) (u : Int32) (ls : Array Slot), (q ≤ e1) → (e1 ≤ w) → (u = nuF sg q (e1 - q)) → w - e1 < n9_1 → lv_has ls 5 [(0, .ref (g k)), (2, .int (nI w)), (3, .int u), (4, .int (nI e1))] → W p l e (headSpec (wsT yX4_numberIn cX4_numberIn 5 (some .int)) ({ frames := 1, cells := 0, slots := 0, locals := 21 })).room s m ([.ref (g k), .int (nI q), .int (nI w)] : List Value).toArray below meth c s.heap [] 0 0 Q9 (F0 m 5 ls []) := by
    intro n9_1
    induction n9_1 with
    | zero => intro e1 u ls h1 h2 hu hn9_1; exact absurd hn9_1 (Nat.not_lt_zero _)
    | succ n9_1 ih_1 =>
      intro e1 u ls h1 h2 hu hn9_1 hl
      refine lv_iload hx hb dX4_numberIn_5 (lv_at hl 3 rfl) ?_
      refine lv_iload_n hx hb dX4_numberIn_7 rfl (lv_at hl 1 rfl) ?_
      refine lv_icmp_ge (tgt := 32) hx hb dX4_numberIn_8 (by decide) (fun c_8 => ?_) (fun c_8 => ?_)
      · refine lv_iload_n hx hb dX4_numberIn_32 rfl (lv_at hl 2 rfl) ?_
        refine W_q9 hQ9 ?_
        exact W.iret (v := u) hx hb hr (fun _ hT9 _ => ⟨_, rfl, (by rw [hu, show e1 = w from Nat.le_antisymm h2 ((nI_leI (by omega) (by omega)).mp c_8)]), hT9⟩) (fun _ h => absurd h List.not_mem_nil) dX4_numberIn_33
      · have hlt : e1 < w := Nat.not_le.mp (fun z => c_8 (nI_le z (by omega)))
        refine lv_bipush (v := 10) hx hb dX4_numberIn_11 (by decide) ?_
        refine lv_iload_n hx hb dX4_numberIn_13 rfl (lv_at hl 2 rfl) ?_
        refine lv_imul hx hb dX4_numberIn_14 ?_
        refine lv_aload_n hx hb dX4_numberIn_15 rfl (lv_at hl 0 rfl) ?_
        refine lv_iload hx hb dX4_numberIn_16 (lv_at hl 3 rfl) ?_
        refine rd_calli (va_runV (As := [.int (nI e1)]) (rest := [.int (10 * u)]) ⟨hx, hb, hml, hown, hts⟩ (t_signAt l G g hg f k ln sc sg (nI e1) htx hsx (by first | assumption | omega | decide) (by first | assumption | omega | decide) (by first | assumption | omega | decide)) (my_cwV hts ok_X8_signAt w_298 rfl rfl ⟨Nat.le_of_ble_eq_true rfl, Nat.le_of_ble_eq_true rfl⟩) ⟨bP.blind, va_recv hG.1 hP (ci := 7) (q0 := k) rfl (wl_at (by omega) htx), fun U hU hW => ⟨rfl, by rw [hU]; exact hP, kG.warm hW hG⟩⟩ rfl rfl hl.1 rfl (lv_room (Nat.le_of_ble_eq_true rfl)) dX4_numberIn_18 ⟨Nat.le_of_ble_eq_true rfl, Nat.le_of_ble_eq_true rfl⟩) (fun r hr9 => ?_)
        subst hr9
        refine my_bei (v := sg e1) (by rw [if_pos (inN_n (show e1 < ln by omega) (by omega)), nI_clamp (by omega)]) ?_
        refine lv_iadd hx hb dX4_numberIn_21 ?_
        refine lv_bipush (v := 48) hx hb dX4_numberIn_22 (by decide) ?_
        refine lv_isub hx hb dX4_numberIn_24 ?_
        refine lv_istore_n (lv' := [(3, .int (((10 * u) + (sg e1)) - 48)), (0, .ref (g k)), (2, .int (nI w)), (4, .int (nI e1))]) hx hb dX4_numberIn_25 rfl hl (by decide) rfl (fun ls hl => ?_)
        refine lv_iinc (v := nI (e1 + 1)) (lv' := [(4, .int (nI (e1 + 1))), (3, .int (((10 * u) + (sg e1)) - 48)), (0, .ref (g k)), (2, .int (nI w))]) hx hb dX4_numberIn_26 hl (k := 3) rfl (nI_1 e1) (by decide) rfl (fun ls hl => ?_)
        refine lv_goto (tgt := 5) hx hb dX4_numberIn_29 (by decide) ?_
        exact ih_1 (e1 + 1) (((10 * u) + (sg e1)) - 48) _ (by omega) (hlt) (by rw [hu, show e1 + 1 - q = (e1 - q) + 1 by omega]; show _ = 10 * nuF sg q (e1 - q) + sg (q + (e1 - q)) - 48; rw [show q + (e1 - q) = e1 by omega]) (by omega) (lv_sub hl [2, 3, 1, 0] rfl)
  exact key1 (w + 1) q 0 _ (Nat.le_refl _) (hqw) (by rw [Nat.sub_self]; rfl) (by omega) (lv_sub hl [2, 4, 1, 0] rfl)
set_option maxHeartbeats 4000000 in
set_option maxRecDepth 100000 in
theorem t_addStepE (l : Launch) (G : gW) (g : Nat → Nat) (hg : gOK g) (f : Nat → va_E) (k : Nat) (ln : Nat) (sc : Nat) (sp : Nat → Int32) (v : Int32) (htx : f k = eO 7 [.ref (g (k + 1)), .ref (g (k + 2)), .int (nI ln), .int (nI sc)]) (hpx : f (k + 2) = eI G 50 sp) (hk3 : k + 2 < 333) (hln : ln ≤ 50) (hsc : sc ≤ 50) (hlt : sc < 50) : Met l yX8_addStep (wsT yX8_addStep cX8_addStep 2 none) ({ frames := 0, cells := 0, slots := 0, locals := 0 }) (bP G g f [.ref (g k), .int v]) (bQv G g (fun (f' : Nat → va_E) => f' k = eO 7 [.ref (g (k + 1)), .ref (g (k + 2)), .int (nI ln), .int (nI (sc + 1))] ∧ f' (k + 2) = eI G 50 (upd sp sc v) ∧ ∀ j, (j ≠ k ∧ j ≠ k + 2) → f' j = f j)) 0 0 (gA g) := by
  refine Met.ofW (cc := cX8_addStep) (maxL := 2) (ret := none) (by decide) rfl ?_
  intro p e s m args below meth c s₁ B hml hv
  obtain ⟨rfl, hP, hG⟩ := hv
  have hx := B.exec
  have hb := B.bytes
  have hr := B.returns
  have hts := my_hts (atoms_spec (ws := wsT yX8_addStep cX8_addStep 2 none) B.pre)
  have hown : s.vm.findClass RX8 = some m.cls := findClass_of_methodNamed B.named
  have hlocks := B.notSynchronized
  have hS : va_S (gA g) s.heap s.heap [] := va_S.rf
  have hl := lv_entry ([.ref (g k), .int v]) (n := 2) (Nat.le_of_ble_eq_true rfl)
  rw [lg_entry_eq]
  generalize (lg_sl ([.ref (g k), .int v]) ++ List.replicate (2 - (lg_sl ([.ref (g k), .int v])).length) Slot.unset).toArray = ls at hl ⊢
  have hl : lv_has ls 2 [(0, .ref (g k)), (1, .int v)] := hl
  refine W_q8 (fun Q9 hQ9 => ?_)
  refine lv_aload_n hx hb dX8_addStep_0 rfl (lv_at hl 0 rfl) ?_
  refine va_get (D := G.1) (ci := 7) (v := .int (nI sc)) (C := RX8) (T := TX8) (N := 4) hx hb hts inlX8 hown hG.1 hP k (wl_at (by omega) htx) rfl 3 (by decide) (hts (.fieldLink RX8 22 "SwornLists$Text" "stepCount" "I") w_293) (fun _ h9 => h9) rfl dX8_addStep_1 ?_
  refine lv_bipush (v := 50) hx hb dX8_addStep_4 (by decide) ?_
  refine lv_icmp_ge (tgt := 29) hx hb dX8_addStep_6 (by decide) (fun c_6 => absurd c_6 (fun z => absurd ((nI_leI (a := 50) (by decide) (by omega)).mp z) (by omega))) (fun c_6 => ?_)
  refine lv_aload_n hx hb dX8_addStep_9 rfl (lv_at hl 0 rfl) ?_
  refine va_get (D := G.1) (ci := 7) (v := .ref (g (k + 2))) (C := RX8) (T := TX8) (N := 4) hx hb hts inlX8 hown hG.1 hP k (wl_at (by omega) htx) rfl 1 (by decide) (hts (.fieldLink RX8 15 "SwornLists$Text" "steps" "[I") w_87) (fun _ h9 => h9) rfl dX8_addStep_10 ?_
  refine lv_aload_n hx hb dX8_addStep_13 rfl (lv_at hl 0 rfl) ?_
  refine va_get (D := G.1) (ci := 7) (v := .int (nI sc)) (C := RX8) (T := TX8) (N := 4) hx hb hts inlX8 hown hG.1 hP k (wl_at (by omega) htx) rfl 3 (by decide) (hts (.fieldLink RX8 22 "SwornLists$Text" "stepCount" "I") w_293) (fun _ h9 => h9) rfl dX8_addStep_14 ?_
  refine lv_iload_n hx hb dX8_addStep_17 rfl (lv_at hl 1 rfl) ?_
  refine va_iast hx hb hG.1 hP (wl_D hg f) hS (k + 2) 0 (wl_at (by omega) hpx) rfl (vp_in_nI (by omega) (by decide)) dX8_addStep_18 (fun H locs hP _ hS => ?_)
  have hP := (congrArg (fun z9 => va_P G.1 vwCl ((wl g f).set (k + 2) (g (k + 2), eI G 50 ((upd sp z9 v)))) H) (show Int32.toNatClampNeg (nI sc) = sc from nI_clamp (by omega))).mp hP
  obtain ⟨f_1, hP, e_1, o_1⟩ := b_put (by omega) hP
  have hpx : f_1 (k + 2) = eI G 50 (upd sp sc v) := e_1
  refine lv_aload_n hx hb dX8_addStep_19 rfl (lv_at hl 0 rfl) ?_
  refine lv_dup hx hb dX8_addStep_20 rfl ?_
  replace htx : f_1 k = eO 7 [.ref (g (k + 1)), .ref (g (k + 2)), .int (nI ln), .int (nI sc)] := ((o_1 k (by omega))).trans htx
  refine va_get (D := G.1) (ci := 7) (v := .int (nI sc)) (C := RX8) (T := TX8) (N := 4) hx hb hts inlX8 hown hG.1 hP k (wl_at (by omega) htx) rfl 3 (by decide) (hts (.fieldLink RX8 22 "SwornLists$Text" "stepCount" "I") w_293) (fun _ h9 => h9) rfl dX8_addStep_21 ?_
  refine lv_iconst (v := 1) hx hb dX8_addStep_24 (by decide) ?_
  refine lv_iadd hx hb dX8_addStep_25 ?_
  refine my_bei (v := nI (sc + 1)) (nI_add sc 1) ?_
  refine va_put (D := G.1) (ci := 7) (v := .int (nI (sc + 1))) (ty := .int) (C := RX8) (T := TX8) (N := 4) hx hb hts inlX8 tyX8 tyX8_ok nmX8 hown hG.1 hP (wl_D hg f_1) hS k (wl_at (by omega) htx) rfl 3 (by decide) (hts (.fieldLink RX8 22 "SwornLists$Text" "stepCount" "I") w_293) (fun _ h9 => h9) rfl (by decide +kernel) rfl rfl (Nat.le_of_ble_eq_true rfl) dX8_addStep_26 (fun H locs hP _ hS => ?_)
  obtain ⟨f_2, hP, e_2, o_2⟩ := b_put (by omega) hP
  have htx : f_2 k = eO 7 [.ref (g (k + 1)), .ref (g (k + 2)), .int (nI ln), .int (nI (sc + 1))] := e_2
  replace hpx : f_2 (k + 2) = eI G 50 (upd sp sc v) := ((o_2 (k + 2) (by omega))).trans hpx
  refine W_q9 hQ9 ?_
  exact W.vret hx hb hr (fun _ hT9 _ => ⟨⟨f_2, rfl, (⟨htx, hpx, fun j hj => ((o_2 j (by omega))).trans (o_1 j (by omega))⟩), by rw [hT9]; exact hP⟩, hS.F hT9⟩) hS.2.2 dX8_addStep_29
set_option maxHeartbeats 4000000 in
set_option maxRecDepth 100000 in
theorem e_holdE (l : Launch) (G : gW) (g : Nat → Nat) (hg : gOK g) (f : Nat → va_E) (mc : Nat) (op : Nat) (cm : Int32) (wu : Bool) (mk : Nat → Int32) (v : Int32) (hrd : f 4 = eO 4 [.ref (g 5), .int (nI mc), .int (nI op), .int cm, .int (b2 (wu = true))]) (hmk : f 5 = eI G 50 mk) (hlt : mc < 50) : Met l yX4_hold (wsT yX4_hold cX4_hold 2 none) ({ frames := 0, cells := 0, slots := 0, locals := 0 }) (bP G g f [.ref (g 4), .int v]) (bQv G g (fun (f' : Nat → va_E) => f' 4 = eO 4 [.ref (g 5), .int (nI (mc + 1)), .int (nI op), .int cm, .int (b2 (wu = true))] ∧ f' 5 = eI G 50 (upd mk mc v) ∧ ∀ j, (j ≠ 4 ∧ j ≠ 5) → f' j = f j)) 0 0 (gA g) := by
  refine Met.ofW (cc := cX4_hold) (maxL := 2) (ret := none) (by decide) rfl ?_
  intro p e s m args below meth c s₁ B hml hv
  obtain ⟨rfl, hP, hG⟩ := hv
  have hx := B.exec
  have hb := B.bytes
  have hr := B.returns
  have hts := my_hts (atoms_spec (ws := wsT yX4_hold cX4_hold 2 none) B.pre)
  have hown : s.vm.findClass RX4 = some m.cls := findClass_of_methodNamed B.named
  have hlocks := B.notSynchronized
  have hS : va_S (gA g) s.heap s.heap [] := va_S.rf
  have hl := lv_entry ([.ref (g 4), .int v]) (n := 2) (Nat.le_of_ble_eq_true rfl)
  rw [lg_entry_eq]
  generalize (lg_sl ([.ref (g 4), .int v]) ++ List.replicate (2 - (lg_sl ([.ref (g 4), .int v])).length) Slot.unset).toArray = ls at hl ⊢
  have hl : lv_has ls 2 [(0, .ref (g 4)), (1, .int v)] := hl
  refine W_q8 (fun Q9 hQ9 => ?_)
  refine lv_aload_n hx hb dX4_hold_0 rfl (lv_at hl 0 rfl) ?_
  refine va_get (D := G.1) (ci := 4) (v := .int (nI mc)) (C := RX4) (T := TX4) (N := 5) hx hb hts inlX4 hown hG.1 hP 4 (wl_at (by decide) hrd) rfl 1 (by decide) (hts (.fieldLink RX4 20 "SwornLists$Reader" "markCount" "I") w_282) (fun _ h9 => h9) rfl dX4_hold_1 ?_
  refine lv_bipush (v := 50) hx hb dX4_hold_4 (by decide) ?_
  refine lv_icmp_ge (tgt := 29) hx hb dX4_hold_6 (by decide) (fun c_6 => absurd c_6 (fun z => absurd ((nI_leI (a := 50) (by decide) (by omega)).mp z) (by omega))) (fun c_6 => ?_)
  refine lv_aload_n hx hb dX4_hold_9 rfl (lv_at hl 0 rfl) ?_
  refine va_get (D := G.1) (ci := 4) (v := .ref (g 5)) (C := RX4) (T := TX4) (N := 5) hx hb hts inlX4 hown hG.1 hP 4 (wl_at (by decide) hrd) rfl 0 (by decide) (hts (.fieldLink RX4 9 "SwornLists$Reader" "marks" "[I") w_95) (fun _ h9 => h9) rfl dX4_hold_10 ?_
  refine lv_aload_n hx hb dX4_hold_13 rfl (lv_at hl 0 rfl) ?_
  refine va_get (D := G.1) (ci := 4) (v := .int (nI mc)) (C := RX4) (T := TX4) (N := 5) hx hb hts inlX4 hown hG.1 hP 4 (wl_at (by decide) hrd) rfl 1 (by decide) (hts (.fieldLink RX4 20 "SwornLists$Reader" "markCount" "I") w_282) (fun _ h9 => h9) rfl dX4_hold_14 ?_
  refine lv_iload_n hx hb dX4_hold_17 rfl (lv_at hl 1 rfl) ?_
  refine va_iast hx hb hG.1 hP (wl_D hg f) hS 5 0 (wl_at (by decide) hmk) rfl (vp_in_nI (by omega) (by decide)) dX4_hold_18 (fun H locs hP _ hS => ?_)
  have hP := (congrArg (fun z9 => va_P G.1 vwCl ((wl g f).set 5 (g 5, eI G 50 ((upd mk z9 v)))) H) (show Int32.toNatClampNeg (nI mc) = mc from nI_clamp (by omega))).mp hP
  obtain ⟨f_1, hP, e_1, o_1⟩ := b_put (by decide) hP
  have hmk : f_1 5 = eI G 50 (upd mk mc v) := e_1
  refine lv_aload_n hx hb dX4_hold_19 rfl (lv_at hl 0 rfl) ?_
  refine lv_dup hx hb dX4_hold_20 rfl ?_
  replace hrd := ((o_1 4 (by decide))).trans hrd
  refine va_get (D := G.1) (ci := 4) (v := .int (nI mc)) (C := RX4) (T := TX4) (N := 5) hx hb hts inlX4 hown hG.1 hP 4 (wl_at (by decide) hrd) rfl 1 (by decide) (hts (.fieldLink RX4 20 "SwornLists$Reader" "markCount" "I") w_282) (fun _ h9 => h9) rfl dX4_hold_21 ?_
  refine lv_iconst (v := 1) hx hb dX4_hold_24 (by decide) ?_
  refine lv_iadd hx hb dX4_hold_25 ?_
  refine my_bei (v := nI (mc + 1)) (nI_add mc 1) ?_
  refine va_put (D := G.1) (ci := 4) (v := .int (nI (mc + 1))) (ty := .int) (C := RX4) (T := TX4) (N := 5) hx hb hts inlX4 tyX4 tyX4_ok nmX4 hown hG.1 hP (wl_D hg f_1) hS 4 (wl_at (by decide) hrd) rfl 1 (by decide) (hts (.fieldLink RX4 20 "SwornLists$Reader" "markCount" "I") w_282) (fun _ h9 => h9) rfl (by decide +kernel) rfl rfl (Nat.le_of_ble_eq_true rfl) dX4_hold_26 (fun H locs hP _ hS => ?_)
  obtain ⟨f_2, hP, e_2, o_2⟩ := b_put (by decide) hP
  have hrd : f_2 4 = eO 4 [.ref (g 5), .int (nI (mc + 1)), .int (nI op), .int cm, .int (b2 (wu = true))] := e_2
  replace hmk := ((o_2 5 (by decide))).trans hmk
  refine W_q9 hQ9 ?_
  exact W.vret hx hb hr (fun _ hT9 _ => ⟨⟨f_2, rfl, (⟨hrd, hmk, fun j hj => ((o_2 j (by omega))).trans (o_1 j (by omega))⟩), by rw [hT9]; exact hP⟩, hS.F hT9⟩) hS.2.2 dX4_hold_29
set_option maxHeartbeats 4000000 in
set_option maxRecDepth 100000 in
theorem e_releaseE (l : Launch) (G : gW) (g : Nat → Nat) (hg : gOK g) (f : Nat → va_E) (k : Nat) (ln : Nat) (sc : Nat) (sp : Nat → Int32) (mc : Nat) (op : Nat) (cm : Int32) (wu : Bool) (mk : Nat → Int32) (r : Int32) (hrd : f 4 = eO 4 [.ref (g 5), .int (nI mc), .int (nI op), .int cm, .int (b2 (wu = true))]) (hmk : f 5 = eI G 50 mk) (htx : f k = eO 7 [.ref (g (k + 1)), .ref (g (k + 2)), .int (nI ln), .int (nI sc)]) (hpx : f (k + 2) = eI G 50 sp) (hk3 : k + 2 < 333) (hln : ln ≤ 50) (hsc : sc ≤ 50) (hkt : 36 ≤ k) (hms : mc + sc ≤ 50) : Met l yX4_release (wsT yX4_release cX4_release 3 none) ({ frames := 1, cells := 0, slots := 0, locals := 21 }) (bP G g f [.ref (g 4), .ref (g k), .int r]) (bQv G g (fun (f' : Nat → va_E) => ∃ mc9 : Nat, ∃ sc9 : Nat, ∃ sp9 : Nat → Int32, f' 4 = eO 4 [.ref (g 5), .int (nI mc9), .int (nI op), .int cm, .int (b2 (wu = true))] ∧ f' k = eO 7 [.ref (g (k + 1)), .ref (g (k + 2)), .int (nI ln), .int (nI sc9)] ∧ f' (k + 2) = eI G 50 sp9 ∧ (mc9 + sc9 = mc + sc) ∧ (stk mk mc9 = popC r (stk mk mc)) ∧ (stk sp9 sc9 = poC r (stk mk mc) (stk sp sc)) ∧ ∀ j, (j ≠ 4 ∧ j ≠ k ∧ j ≠ k + 2) → f' j = f j)) 0 0 (gA g) := by
  refine Met.ofW (cc := cX4_release) (maxL := 3) (ret := none) (by decide) rfl ?_
  intro p e s m args below meth c s₁ B hml hv
  obtain ⟨rfl, hP, hG⟩ := hv
  have hx := B.exec
  have hb := B.bytes
  have hr := B.returns
  have hts := my_hts (atoms_spec (ws := wsT yX4_release cX4_release 3 none) B.pre)
  have hown : s.vm.findClass RX4 = some m.cls := findClass_of_methodNamed B.named
  have hlocks := B.notSynchronized
  have hS : va_S (gA g) s.heap s.heap [] := va_S.rf
  have hl := lv_entry ([.ref (g 4), .ref (g k), .int r]) (n := 3) (Nat.le_of_ble_eq_true rfl)
  rw [lg_entry_eq]
  generalize (lg_sl ([.ref (g 4), .ref (g k), .int r]) ++ List.replicate (3 - (lg_sl ([.ref (g 4), .ref (g k), .int r])).length) Slot.unset).toArray = ls at hl ⊢
  have hl : lv_has ls 3 [(0, .ref (g 4)), (1, .ref (g k)), (2, .int r)] := hl
  refine W_q8 (fun Q9 hQ9 => ?_)
  have key1 : ∀ (n9_1 : Nat) (mc1 : Nat) (sc1 : Nat) (sp1 : Nat → Int32) (f_1 : Nat → va_E) (H : Heap) (locs : List Loc) (ls : Array Slot), (mc1 + sc1 = mc + sc) → (popC r (stk mk mc1) = popC r (stk mk mc)) → (poC r (stk mk mc1) (stk sp1 sc1) = poC r (stk mk mc) (stk sp sc)) → mc1 < n9_1 → f_1 4 = eO 4 [.ref (g 5), .int (nI mc1), .int (nI op), .int cm, .int (b2 (wu = true))] → f_1 5 = eI G 50 mk → f_1 k = eO 7 [.ref (g (k + 1)), .ref (g (k + 2)), .int (nI ln), .int (nI sc1)] → f_1 (k + 2) = eI G 50 sp1 → (∀ j, (j ≠ 4 ∧ j ≠ k ∧ j ≠ k + 2) → f_1 j = f j) → va_P G.1 vwCl (wl g f_1) H → va_S (gA g) s.heap H locs → lv_has ls 3 [(0, .ref (g 4)), (1, .ref (g k)), (2, .int r)] → W p l e (headSpec (wsT yX4_release cX4_release 3 none) ({ frames := 1, cells := 0, slots := 0, locals := 21 })).room s m ([.ref (g 4), .ref (g k), .int r] : List Value).toArray below meth c H locs 0 0 Q9 (F0 m 0 ls []) := by
    intro n9_1
    induction n9_1 with
    | zero => intro mc1 sc1 sp1 f_1 H locs ls hs1 hp1 ho1 hn9_1; exact absurd hn9_1 (Nat.not_lt_zero _)
    | succ n9_1 ih_1 =>
      intro mc1 sc1 sp1 f_1 H locs ls hs1 hp1 ho1 hn9_1 hrd hmk htx hpx o_1 hP hS hl
      refine lv_aload_n hx hb dX4_release_0 rfl (lv_at hl 0 rfl) ?_
      refine va_get (D := G.1) (ci := 4) (v := .int (nI mc1)) (C := RX4) (T := TX4) (N := 5) hx hb hts inlX4 hown hG.1 hP 4 (wl_at (by decide) hrd) rfl 1 (by decide) (hts (.fieldLink RX4 20 "SwornLists$Reader" "markCount" "I") w_282) (fun _ h9 => h9) rfl dX4_release_1 ?_
      refine lv_if_le (tgt := 52) hx hb dX4_release_4 (by decide) (fun c_4 => ?_) (fun c_4 => ?_)
      · have k_4 : mc1 ≤ 0 := (nI_leI (a := mc1) (b := 0) (by omega) (by omega)).mp c_4
        refine W_q9 hQ9 ?_
        exact W.vret hx hb hr (fun _ hT9 _ => ⟨⟨f_1, rfl, (⟨mc1, sc1, sp1, hrd, htx, hpx, hs1, (popC_0 (by omega)).symm.trans hp1, (poC_0 (by omega)).symm.trans ho1, fun j hj => (o_1 j (by omega))⟩), by rw [hT9]; exact hP⟩, hS.F hT9⟩) hS.2.2 dX4_release_52
      · have k_4 : ¬ mc1 ≤ 0 := fun z9 => c_4 ((nI_leI (a := mc1) (b := 0) (by omega) (by omega)).mpr z9)
        refine lv_aload_n hx hb dX4_release_7 rfl (lv_at hl 0 rfl) ?_
        refine va_get (D := G.1) (ci := 4) (v := .ref (g 5)) (C := RX4) (T := TX4) (N := 5) hx hb hts inlX4 hown hG.1 hP 4 (wl_at (by decide) hrd) rfl 0 (by decide) (hts (.fieldLink RX4 9 "SwornLists$Reader" "marks" "[I") w_95) (fun _ h9 => h9) rfl dX4_release_8 ?_
        refine lv_aload_n hx hb dX4_release_11 rfl (lv_at hl 0 rfl) ?_
        refine va_get (D := G.1) (ci := 4) (v := .int (nI mc1)) (C := RX4) (T := TX4) (N := 5) hx hb hts inlX4 hown hG.1 hP 4 (wl_at (by decide) hrd) rfl 1 (by decide) (hts (.fieldLink RX4 20 "SwornLists$Reader" "markCount" "I") w_282) (fun _ h9 => h9) rfl dX4_release_12 ?_
        refine lv_iconst (v := 1) hx hb dX4_release_15 (by decide) ?_
        refine lv_isub hx hb dX4_release_16 ?_
        refine my_bei (v := nI (mc1 - 1)) (pk_sub (a := mc1) (b := 1) (by omega)) ?_
        refine va_iald hx hb hG.1 hP 5 0 (wl_at (by decide) hmk) rfl (vp_in_nI (by omega) (by decide)) dX4_release_17 ?_
        refine my_bei (v := mk (mc1 - 1)) (congrArg mk (nI_clamp (n := mc1 - 1) (by omega))) ?_
        refine rd_calli (va_runS (As := [.int (mk (mc1 - 1))]) (rest := []) ⟨hx, hb, hml, hown, hts⟩ (g_rankE l G g hg f_1 (mk (mc1 - 1))  ) (my_cwS hts ok_X7_rank w_335 rfl rfl ⟨Nat.le_of_ble_eq_true rfl, Nat.le_of_ble_eq_true rfl⟩) ⟨bP.blind, fun U hU hW => ⟨rfl, by rw [hU]; exact hP, kG.warm hW hG⟩⟩ rfl rfl hl.1 rfl (lv_room (Nat.le_of_ble_eq_true rfl)) dX4_release_18 ⟨Nat.le_of_ble_eq_true rfl, Nat.le_of_ble_eq_true rfl⟩) (fun r hr9 => ?_)
        subst hr9
        refine lv_iload_n hx hb dX4_release_21 rfl (lv_at hl 2 rfl) ?_
        refine lv_icmp_lt (tgt := 52) hx hb dX4_release_22 (by decide) (fun c_22 => ?_) (fun c_22 => ?_)
        · refine W_q9 hQ9 ?_
          exact W.vret hx hb hr (fun _ hT9 _ => ⟨⟨f_1, rfl, (⟨mc1, sc1, sp1, hrd, htx, hpx, hs1, (popC_st (by omega) c_22).symm.trans hp1, (poC_st (by omega) c_22).symm.trans ho1, fun j hj => (o_1 j (by omega))⟩), by rw [hT9]; exact hP⟩, hS.F hT9⟩) hS.2.2 dX4_release_52
        · refine lv_aload_n hx hb dX4_release_25 rfl (lv_at hl 0 rfl) ?_
          refine lv_dup hx hb dX4_release_26 rfl ?_
          refine va_get (D := G.1) (ci := 4) (v := .int (nI mc1)) (C := RX4) (T := TX4) (N := 5) hx hb hts inlX4 hown hG.1 hP 4 (wl_at (by decide) hrd) rfl 1 (by decide) (hts (.fieldLink RX4 20 "SwornLists$Reader" "markCount" "I") w_282) (fun _ h9 => h9) rfl dX4_release_27 ?_
          refine lv_iconst (v := 1) hx hb dX4_release_30 (by decide) ?_
          refine lv_isub hx hb dX4_release_31 ?_
          refine my_bei (v := nI (mc1 - 1)) (pk_sub (a := mc1) (b := 1) (by omega)) ?_
          refine va_put (D := G.1) (ci := 4) (v := .int (nI (mc1 - 1))) (ty := .int) (C := RX4) (T := TX4) (N := 5) hx hb hts inlX4 tyX4 tyX4_ok nmX4 hown hG.1 hP (wl_D hg f_1) hS 4 (wl_at (by decide) hrd) rfl 1 (by decide) (hts (.fieldLink RX4 20 "SwornLists$Reader" "markCount" "I") w_282) (fun _ h9 => h9) rfl (by decide +kernel) rfl rfl (Nat.le_of_ble_eq_true rfl) dX4_release_32 (fun H locs hP _ hS => ?_)
          obtain ⟨f_2, hP, e_2, o_2⟩ := b_put (by decide) hP
          have hrd : f_2 4 = eO 4 [.ref (g 5), .int (nI (mc1 - 1)), .int (nI op), .int cm, .int (b2 (wu = true))] := e_2
          refine lv_aload_n hx hb dX4_release_35 rfl (lv_at hl 1 rfl) ?_
          refine lv_aload_n hx hb dX4_release_36 rfl (lv_at hl 0 rfl) ?_
          refine va_get (D := G.1) (ci := 4) (v := .ref (g 5)) (C := RX4) (T := TX4) (N := 5) hx hb hts inlX4 hown hG.1 hP 4 (wl_at (by decide) hrd) rfl 0 (by decide) (hts (.fieldLink RX4 9 "SwornLists$Reader" "marks" "[I") w_95) (fun _ h9 => h9) rfl dX4_release_37 ?_
          refine lv_aload_n hx hb dX4_release_40 rfl (lv_at hl 0 rfl) ?_
          refine va_get (D := G.1) (ci := 4) (v := .int (nI (mc1 - 1))) (C := RX4) (T := TX4) (N := 5) hx hb hts inlX4 hown hG.1 hP 4 (wl_at (by decide) hrd) rfl 1 (by decide) (hts (.fieldLink RX4 20 "SwornLists$Reader" "markCount" "I") w_282) (fun _ h9 => h9) rfl dX4_release_41 ?_
          replace hmk := ((o_2 5 (by decide))).trans hmk
          refine va_iald hx hb hG.1 hP 5 0 (wl_at (by decide) hmk) rfl (vp_in_nI (by omega) (by decide)) dX4_release_44 ?_
          refine my_bei (v := mk (mc1 - 1)) (congrArg mk (nI_clamp (n := mc1 - 1) (by omega))) ?_
          refine lv_ineg hx hb dX4_release_45 ?_
          replace htx : f_2 k = eO 7 [.ref (g (k + 1)), .ref (g (k + 2)), .int (nI ln), .int (nI sc1)] := ((o_2 k (by omega))).trans htx
          replace hpx : f_2 (k + 2) = eI G 50 sp1 := ((o_2 (k + 2) (by omega))).trans hpx
          refine b_callv (va_runV (As := [.int (-(mk (mc1 - 1)))]) (rest := []) ⟨hx, hb, hml, hown, hts⟩ (t_addStepE l G g hg f_2 k ln sc1 sp1 (-(mk (mc1 - 1))) htx hpx (by first | assumption | omega | decide) (by first | assumption | omega | decide) (by first | assumption | omega | decide) (by first | assumption | omega | decide)) (my_cwV hts ok_X8_addStep w_311 rfl rfl ⟨Nat.le_of_ble_eq_true rfl, Nat.le_of_ble_eq_true rfl⟩) ⟨bP.blind, va_recv hG.1 hP (ci := 7) (q0 := k) rfl (wl_at (by omega) htx), fun U hU hW => ⟨rfl, by rw [hU]; exact hP, kG.warm hW hG⟩⟩ rfl rfl hl.1 rfl (lv_room (Nat.le_of_ble_eq_true rfl)) dX4_release_46 ⟨Nat.le_of_ble_eq_true rfl, Nat.le_of_ble_eq_true rfl⟩) hS (fun f_3 H locs hq9 hP hS => ?_)
          obtain ⟨hq_3_0, hq_3_1, o_3⟩ := hq9
          have htx : f_3 k = eO 7 [.ref (g (k + 1)), .ref (g (k + 2)), .int (nI ln), .int (nI (sc1 + 1))] := hq_3_0
          have hpx : f_3 (k + 2) = eI G 50 (upd sp1 sc1 (-(mk (mc1 - 1)))) := hq_3_1
          refine lv_goto (tgt := 0) hx hb dX4_release_49 (by decide) ?_
          replace hrd := ((o_3 4 (by first | decide | omega))).trans hrd
          replace hmk := ((o_3 5 (by first | decide | omega))).trans hmk
          exact ih_1 (mc1 - 1) (sc1 + 1) (upd sp1 sc1 (-(mk (mc1 - 1)))) f_3 _ _ _ (by omega) ((popC_go (by omega) c_22).symm.trans hp1) (by rw [stk_p]; exact (poC_go (by omega) c_22).symm.trans ho1) (by omega) (hrd) (hmk) (htx) (hpx) (fun j hj => (((o_3 j (by omega))).trans (o_2 j (by omega))).trans (o_1 j (by omega))) hP hS (lv_sub hl [0, 1, 2] rfl)
  exact key1 (mc + 1) mc sc sp f _ _ _ (rfl) (rfl) (rfl) (by omega) (hrd) (hmk) (htx) (hpx) (fun j _ => rfl) hP hS (lv_sub hl [0, 1, 2] rfl)

