/-- a hearing of whom it is known who was sworn -/
def okZ (G : gW) (g : Nat → Nat) (f : Nat → va_E) (k : Nat) (w : Int32) : Prop := ∃ (sl : Nat) (lo ib ca mi s0 s1 : Int32) (od : Nat → Int32), f k = eO 3 [.ref (g (k + 1)), .int (nI sl), .int lo, .int ib, .int ca, .int mi, .int s0, .int s1, .int w] ∧ f (k + 1) = eI G 24 od ∧ sl ≤ 24
theorem okZ_fr {G : gW} {g : Nat → Nat} {f f' : Nat → va_E} {k : Nat} {w : Int32} (h : okZ G g f k w) (e1 : f' k = f k) (e2 : f' (k + 1) = f (k + 1)) : okZ G g f' k w := by
  obtain ⟨sl, lo, ib, ca, mi, s0, s1, od, h1, h2, h3⟩ := h
  exact ⟨sl, lo, ib, ca, mi, s0, s1, od, e1.trans h1, e2.trans h2, h3⟩
theorem okZ.ok {G : gW} {g : Nat → Nat} {f : Nat → va_E} {k : Nat} {w : Int32} (h : okZ G g f k w) : okH G g f k := by
  obtain ⟨sl, lo, ib, ca, mi, s0, s1, od, h1, h2, h3⟩ := h
  exact ⟨sl, lo, ib, ca, mi, s0, s1, w, od, h1, h2, h3⟩
set_option maxHeartbeats 4000000 in
set_option maxRecDepth 100000 in
theorem g_truthE (l : Launch) (G : gW) (g : Nat → Nat) (hg : gOK g) (f : Nat → va_E) (n : Int32)   : Met l yX7_truth (wsT yX7_truth cX7_truth 1 (some .long)) ({ frames := 0, cells := 0, slots := 0, locals := 0 }) (bP G g f [.int n]) (rQl (fun z9 => z9 = (if n = 0 then (0 : Int64) else 1))) 0 0 fr0 := by
  refine Met.ofW (cc := cX7_truth) (maxL := 1) (ret := (some .long)) (by decide) rfl ?_
  intro p e s m args below meth c s₁ B hml hv
  obtain ⟨rfl, hP, hG⟩ := hv
  have hx := B.exec
  have hb := B.bytes
  have hr := B.returns
  have hts := my_hts (atoms_spec (ws := wsT yX7_truth cX7_truth 1 (some .long)) B.pre)
  have hown : s.vm.findClass RX7 = some m.cls := findClass_of_methodNamed B.named
  have hlocks := B.notSynchronized
  have hl := lv_entry ([.int n]) (n := 1) (Nat.le_of_ble_eq_true rfl)
  rw [lg_entry_eq]
  generalize (lg_sl ([.int n]) ++ List.replicate (1 - (lg_sl ([.int n])).length) Slot.unset).toArray = ls at hl ⊢
  have hl : lv_has ls 1 [(0, .int n)] := hl
  refine W_q8 (fun Q9 hQ9 => ?_)
  refine lv_iload_n hx hb dX7_truth_0 rfl (lv_at hl 0 rfl) ?_
  refine lv_if_eq (tgt := 8) hx hb dX7_truth_1 (by decide) (fun c_1 => ?_) (fun c_1 => ?_)
  · refine lv_lconst (v := 0) hx hb dX7_truth_8 (by decide) ?_
    refine W_q9 hQ9 ?_
    exact W.lret (v := 0) hx hb hr (fun _ hT9 _ => ⟨_, rfl, ((if_pos c_1).symm), hT9⟩) (fun _ h => absurd h List.not_mem_nil) dX7_truth_9
  · refine lv_lconst (v := 1) hx hb dX7_truth_4 (by decide) ?_
    refine lv_goto (tgt := 9) hx hb dX7_truth_5 (by decide) ?_
    refine W_q9 hQ9 ?_
    exact W.lret (v := 1) hx hb hr (fun _ hT9 _ => ⟨_, rfl, ((if_neg c_1).symm), hT9⟩) (fun _ h => absurd h List.not_mem_nil) dX7_truth_9
set_option maxHeartbeats 4000000 in
set_option maxRecDepth 100000 in
theorem g_turnedE (l : Launch) (G : gW) (g : Nat → Nat) (hg : gOK g) (f : Nat → va_E) (n : Int32) (u : Int64)   : Met l yX7_turned (wsT yX7_turned cX7_turned 3 (some .long)) ({ frames := 1, cells := 0, slots := 0, locals := 20 }) (bP G g f [.int n, .long u]) (rQl (fun z9 => z9 = trn n u)) 0 0 fr0 := by
  refine Met.ofW (cc := cX7_turned) (maxL := 3) (ret := (some .long)) (by decide) rfl ?_
  intro p e s m args below meth c s₁ B hml hv
  obtain ⟨rfl, hP, hG⟩ := hv
  have hx := B.exec
  have hb := B.bytes
  have hr := B.returns
  have hts := my_hts (atoms_spec (ws := wsT yX7_turned cX7_turned 3 (some .long)) B.pre)
  have hown : s.vm.findClass RX7 = some m.cls := findClass_of_methodNamed B.named
  have hlocks := B.notSynchronized
  have hl := lv_entry ([.int n, .long u]) (n := 3) (Nat.le_of_ble_eq_true rfl)
  rw [lg_entry_eq]
  generalize (lg_sl ([.int n, .long u]) ++ List.replicate (3 - (lg_sl ([.int n, .long u])).length) Slot.unset).toArray = ls at hl ⊢
  have hl : lv_has ls 3 [(0, .int n), (1, .long u)] := hl
  refine W_q8 (fun Q9 hQ9 => ?_)
  refine lv_iload_n hx hb dX7_turned_0 rfl (lv_at hl 0 rfl) ?_
  refine lv_bipush (v := 33) hx hb dX7_turned_1 (by decide) ?_
  refine lv_icmp_ne (tgt := 23) hx hb dX7_turned_3 (by decide) (fun c_3 => ?_) (fun c_3 => ?_)
  · refine lv_lload_n hx hb dX7_turned_23 rfl (lv_at hl 1 rfl) ?_
    refine lv_lneg hx hb dX7_turned_24 ?_
    refine W_q9 hQ9 ?_
    exact W.lret (v := -u) hx hb hr (fun _ hT9 _ => ⟨_, rfl, ((show trn n u = -u from if_neg c_3).symm), hT9⟩) (fun _ h => absurd h List.not_mem_nil) dX7_turned_25
  · refine lv_lload_n hx hb dX7_turned_6 rfl (lv_at hl 1 rfl) ?_
    refine lv_lconst (v := 0) hx hb dX7_turned_7 (by decide) ?_
    refine W.lcmp hx hb dX7_turned_8 ?_
    refine lv_if_ne (tgt := 16) hx hb dX7_turned_9 (by decide) (fun c_9 => ?_) (fun c_9 => ?_)
    · refine lv_iconst (v := 0) hx hb dX7_turned_16 (by decide) ?_
      refine rd_calll (va_runS (As := [.int 0]) (rest := []) ⟨hx, hb, hml, hown, hts⟩ (g_truthE l G g hg f 0  ) (my_cwS hts ok_X7_truth w_458 rfl rfl ⟨Nat.le_of_ble_eq_true rfl, Nat.le_of_ble_eq_true rfl⟩) ⟨bP.blind, fun U hU hW => ⟨rfl, by rw [hU]; exact hP, kG.warm hW hG⟩⟩ rfl rfl hl.1 rfl (lv_room (Nat.le_of_ble_eq_true rfl)) dX7_turned_17 ⟨Nat.le_of_ble_eq_true rfl, Nat.le_of_ble_eq_true rfl⟩) (fun r hr9 => ?_)
      subst hr9
      refine my_bel (v := 0) (if_pos rfl) ?_
      refine lv_goto (tgt := 25) hx hb dX7_turned_20 (by decide) ?_
      refine W_q9 hQ9 ?_
      exact W.lret (v := 0) hx hb hr (fun _ hT9 _ => ⟨_, rfl, ((show trn n u = 0 by unfold trn; rw [if_pos c_3, if_neg (fun z => c_9 ((lg_cmp_eq _ _).mpr z))]).symm), hT9⟩) (fun _ h => absurd h List.not_mem_nil) dX7_turned_25
    · refine lv_iconst (v := 1) hx hb dX7_turned_12 (by decide) ?_
      refine lv_goto (tgt := 17) hx hb dX7_turned_13 (by decide) ?_
      refine rd_calll (va_runS (As := [.int 1]) (rest := []) ⟨hx, hb, hml, hown, hts⟩ (g_truthE l G g hg f 1  ) (my_cwS hts ok_X7_truth w_458 rfl rfl ⟨Nat.le_of_ble_eq_true rfl, Nat.le_of_ble_eq_true rfl⟩) ⟨bP.blind, fun U hU hW => ⟨rfl, by rw [hU]; exact hP, kG.warm hW hG⟩⟩ rfl rfl hl.1 rfl (lv_room (Nat.le_of_ble_eq_true rfl)) dX7_turned_17 ⟨Nat.le_of_ble_eq_true rfl, Nat.le_of_ble_eq_true rfl⟩) (fun r hr9 => ?_)
      subst hr9
      refine my_bel (v := 1) (if_neg (by decide)) ?_
      refine lv_goto (tgt := 25) hx hb dX7_turned_20 (by decide) ?_
      refine W_q9 hQ9 ?_
      exact W.lret (v := 1) hx hb hr (fun _ hT9 _ => ⟨_, rfl, ((show trn n u = 1 by unfold trn; rw [if_pos c_3, if_pos ((lg_cmp_eq _ _).mp c_9)]).symm), hT9⟩) (fun _ h => absurd h List.not_mem_nil) dX7_turned_25
set_option maxHeartbeats 4000000 in
set_option maxRecDepth 100000 in
theorem g_joinedE (l : Launch) (G : gW) (g : Nat → Nat) (hg : gOK g) (f : Nat → va_E) (n : Int32) (u : Int64) (v : Int64)   : Met l yX7_joined (wsT yX7_joined cX7_joined 5 (some .long)) ({ frames := 1, cells := 0, slots := 0, locals := 20 }) (bP G g f [.int n, .long u, .long v]) (rQl (fun z9 => z9 = jn n u v)) 0 0 fr0 := by
  refine Met.ofW (cc := cX7_joined) (maxL := 5) (ret := (some .long)) (by decide) rfl ?_
  intro p e s m args below meth c s₁ B hml hv
  obtain ⟨rfl, hP, hG⟩ := hv
  have hx := B.exec
  have hb := B.bytes
  have hr := B.returns
  have hts := my_hts (atoms_spec (ws := wsT yX7_joined cX7_joined 5 (some .long)) B.pre)
  have hown : s.vm.findClass RX7 = some m.cls := findClass_of_methodNamed B.named
  have hlocks := B.notSynchronized
  have hl := lv_entry ([.int n, .long u, .long v]) (n := 5) (Nat.le_of_ble_eq_true rfl)
  rw [lg_entry_eq]
  generalize (lg_sl ([.int n, .long u, .long v]) ++ List.replicate (5 - (lg_sl ([.int n, .long u, .long v])).length) Slot.unset).toArray = ls at hl ⊢
  have hl : lv_has ls 5 [(0, .int n), (1, .long u), (3, .long v)] := hl
  refine W_q8 (fun Q9 hQ9 => ?_)
  refine lv_iload_n hx hb dX7_joined_0 rfl (lv_at hl 0 rfl) ?_
  by_cases e_38 : n = 38
  · refine my_bei e_38 ?_
    refine lv_lookup (off := 96) (tgt := 97) hx hb dX7_joined_1 (by decide) (by decide) (by decide) ?_
    refine lv_lload_n hx hb dX7_joined_97 rfl (lv_at hl 1 rfl) ?_
    refine lv_lconst (v := 0) hx hb dX7_joined_98 (by decide) ?_
    refine W.lcmp hx hb dX7_joined_99 ?_
    refine lv_if_eq (tgt := 113) hx hb dX7_joined_100 (by decide) (fun c_100 => ?_) (fun c_100 => ?_)
    · refine lv_iconst (v := 0) hx hb dX7_joined_113 (by decide) ?_
      refine rd_calll (va_runS (As := [.int 0]) (rest := []) ⟨hx, hb, hml, hown, hts⟩ (g_truthE l G g hg f 0  ) (my_cwS hts ok_X7_truth w_458 rfl rfl ⟨Nat.le_of_ble_eq_true rfl, Nat.le_of_ble_eq_true rfl⟩) ⟨bP.blind, fun U hU hW => ⟨rfl, by rw [hU]; exact hP, kG.warm hW hG⟩⟩ rfl rfl hl.1 rfl (lv_room (Nat.le_of_ble_eq_true rfl)) dX7_joined_114 ⟨Nat.le_of_ble_eq_true rfl, Nat.le_of_ble_eq_true rfl⟩) (fun r hr9 => ?_)
      subst hr9
      refine my_bel (v := 0) (if_pos rfl) ?_
      refine W_q9 hQ9 ?_
      exact W.lret (v := 0) hx hb hr (fun _ hT9 _ => ⟨_, rfl, (by unfold jn; rw [if_pos e_38, if_neg (fun z => z.1 ((lg_cmp_eq _ _).mp c_100))]), hT9⟩) (fun _ h => absurd h List.not_mem_nil) dX7_joined_117
    · refine lv_lload_n hx hb dX7_joined_103 rfl (lv_at hl 2 rfl) ?_
      refine lv_lconst (v := 0) hx hb dX7_joined_104 (by decide) ?_
      refine W.lcmp hx hb dX7_joined_105 ?_
      refine lv_if_eq (tgt := 113) hx hb dX7_joined_106 (by decide) (fun c_106 => ?_) (fun c_106 => ?_)
      · refine lv_iconst (v := 0) hx hb dX7_joined_113 (by decide) ?_
        refine rd_calll (va_runS (As := [.int 0]) (rest := []) ⟨hx, hb, hml, hown, hts⟩ (g_truthE l G g hg f 0  ) (my_cwS hts ok_X7_truth w_458 rfl rfl ⟨Nat.le_of_ble_eq_true rfl, Nat.le_of_ble_eq_true rfl⟩) ⟨bP.blind, fun U hU hW => ⟨rfl, by rw [hU]; exact hP, kG.warm hW hG⟩⟩ rfl rfl hl.1 rfl (lv_room (Nat.le_of_ble_eq_true rfl)) dX7_joined_114 ⟨Nat.le_of_ble_eq_true rfl, Nat.le_of_ble_eq_true rfl⟩) (fun r hr9 => ?_)
        subst hr9
        refine my_bel (v := 0) (if_pos rfl) ?_
        refine W_q9 hQ9 ?_
        exact W.lret (v := 0) hx hb hr (fun _ hT9 _ => ⟨_, rfl, (by unfold jn; rw [if_pos e_38, if_neg (fun z => z.2 ((lg_cmp_eq _ _).mp c_106))]), hT9⟩) (fun _ h => absurd h List.not_mem_nil) dX7_joined_117
      · refine lv_iconst (v := 1) hx hb dX7_joined_109 (by decide) ?_
        refine lv_goto (tgt := 114) hx hb dX7_joined_110 (by decide) ?_
        refine rd_calll (va_runS (As := [.int 1]) (rest := []) ⟨hx, hb, hml, hown, hts⟩ (g_truthE l G g hg f 1  ) (my_cwS hts ok_X7_truth w_458 rfl rfl ⟨Nat.le_of_ble_eq_true rfl, Nat.le_of_ble_eq_true rfl⟩) ⟨bP.blind, fun U hU hW => ⟨rfl, by rw [hU]; exact hP, kG.warm hW hG⟩⟩ rfl rfl hl.1 rfl (lv_room (Nat.le_of_ble_eq_true rfl)) dX7_joined_114 ⟨Nat.le_of_ble_eq_true rfl, Nat.le_of_ble_eq_true rfl⟩) (fun r hr9 => ?_)
        subst hr9
        refine my_bel (v := 1) (if_neg (by decide)) ?_
        refine W_q9 hQ9 ?_
        exact W.lret (v := 1) hx hb hr (fun _ hT9 _ => ⟨_, rfl, (by unfold jn; rw [if_pos e_38, if_pos ⟨(fun z => c_100 ((lg_cmp_eq _ _).mpr z)), (fun z => c_106 ((lg_cmp_eq _ _).mpr z))⟩]), hT9⟩) (fun _ h => absurd h List.not_mem_nil) dX7_joined_117
  by_cases e_42 : n = 42
  · refine my_bei e_42 ?_
    refine lv_lookup (off := 170) (tgt := 171) hx hb dX7_joined_1 (by decide) (by decide) (by decide) ?_
    refine lv_lload_n hx hb dX7_joined_171 rfl (lv_at hl 1 rfl) ?_
    refine lv_lload_n hx hb dX7_joined_172 rfl (lv_at hl 2 rfl) ?_
    refine lv_lmul hx hb dX7_joined_173 ?_
    refine W_q9 hQ9 ?_
    exact W.lret (v := u * v) hx hb hr (fun _ hT9 _ => ⟨_, rfl, (by unfold jn; rw [if_neg e_38, if_pos e_42]), hT9⟩) (fun _ h => absurd h List.not_mem_nil) dX7_joined_174
  by_cases e_43 : n = 43
  · refine my_bei e_43 ?_
    refine lv_lookup (off := 162) (tgt := 163) hx hb dX7_joined_1 (by decide) (by decide) (by decide) ?_
    refine lv_lload_n hx hb dX7_joined_163 rfl (lv_at hl 1 rfl) ?_
    refine lv_lload_n hx hb dX7_joined_164 rfl (lv_at hl 2 rfl) ?_
    refine lv_ladd hx hb dX7_joined_165 ?_
    refine W_q9 hQ9 ?_
    exact W.lret (v := u + v) hx hb hr (fun _ hT9 _ => ⟨_, rfl, (by unfold jn; rw [if_neg e_38, if_neg e_42, if_pos e_43]), hT9⟩) (fun _ h => absurd h List.not_mem_nil) dX7_joined_166
  by_cases e_45 : n = 45
  · refine my_bei e_45 ?_
    refine lv_lookup (off := 166) (tgt := 167) hx hb dX7_joined_1 (by decide) (by decide) (by decide) ?_
    refine lv_lload_n hx hb dX7_joined_167 rfl (lv_at hl 1 rfl) ?_
    refine lv_lload_n hx hb dX7_joined_168 rfl (lv_at hl 2 rfl) ?_
    refine lv_lsub hx hb dX7_joined_169 ?_
    refine W_q9 hQ9 ?_
    exact W.lret (v := u - v) hx hb hr (fun _ hT9 _ => ⟨_, rfl, (by unfold jn; rw [if_neg e_38, if_neg e_42, if_neg e_43, if_pos e_45]), hT9⟩) (fun _ h => absurd h List.not_mem_nil) dX7_joined_170
  by_cases e_60 : n = 60
  · refine my_bei e_60 ?_
    refine lv_lookup (off := 117) (tgt := 118) hx hb dX7_joined_1 (by decide) (by decide) (by decide) ?_
    refine lv_lload_n hx hb dX7_joined_118 rfl (lv_at hl 1 rfl) ?_
    refine lv_lload_n hx hb dX7_joined_119 rfl (lv_at hl 2 rfl) ?_
    refine W.lcmp hx hb dX7_joined_120 ?_
    refine lv_if_ge (tgt := 128) hx hb dX7_joined_121 (by decide) (fun c_121 => ?_) (fun c_121 => ?_)
    · refine lv_iconst (v := 0) hx hb dX7_joined_128 (by decide) ?_
      refine rd_calll (va_runS (As := [.int 0]) (rest := []) ⟨hx, hb, hml, hown, hts⟩ (g_truthE l G g hg f 0  ) (my_cwS hts ok_X7_truth w_458 rfl rfl ⟨Nat.le_of_ble_eq_true rfl, Nat.le_of_ble_eq_true rfl⟩) ⟨bP.blind, fun U hU hW => ⟨rfl, by rw [hU]; exact hP, kG.warm hW hG⟩⟩ rfl rfl hl.1 rfl (lv_room (Nat.le_of_ble_eq_true rfl)) dX7_joined_129 ⟨Nat.le_of_ble_eq_true rfl, Nat.le_of_ble_eq_true rfl⟩) (fun r hr9 => ?_)
      subst hr9
      refine my_bel (v := 0) (if_pos rfl) ?_
      refine W_q9 hQ9 ?_
      exact W.lret (v := 0) hx hb hr (fun _ hT9 _ => ⟨_, rfl, (by unfold jn; rw [if_neg e_38, if_neg e_42, if_neg e_43, if_neg e_45, if_pos e_60, if_neg (fun z => absurd ((lg_cmp_lt _ _).mpr z) (Int32.not_lt.mpr c_121))]), hT9⟩) (fun _ h => absurd h List.not_mem_nil) dX7_joined_132
    · refine lv_iconst (v := 1) hx hb dX7_joined_124 (by decide) ?_
      refine lv_goto (tgt := 129) hx hb dX7_joined_125 (by decide) ?_
      refine rd_calll (va_runS (As := [.int 1]) (rest := []) ⟨hx, hb, hml, hown, hts⟩ (g_truthE l G g hg f 1  ) (my_cwS hts ok_X7_truth w_458 rfl rfl ⟨Nat.le_of_ble_eq_true rfl, Nat.le_of_ble_eq_true rfl⟩) ⟨bP.blind, fun U hU hW => ⟨rfl, by rw [hU]; exact hP, kG.warm hW hG⟩⟩ rfl rfl hl.1 rfl (lv_room (Nat.le_of_ble_eq_true rfl)) dX7_joined_129 ⟨Nat.le_of_ble_eq_true rfl, Nat.le_of_ble_eq_true rfl⟩) (fun r hr9 => ?_)
      subst hr9
      refine my_bel (v := 1) (if_neg (by decide)) ?_
      refine W_q9 hQ9 ?_
      exact W.lret (v := 1) hx hb hr (fun _ hT9 _ => ⟨_, rfl, (by unfold jn; rw [if_neg e_38, if_neg e_42, if_neg e_43, if_neg e_45, if_pos e_60, if_pos ((lg_cmp_lt _ _).mp (Int32.not_le.mp c_121))]), hT9⟩) (fun _ h => absurd h List.not_mem_nil) dX7_joined_132
  by_cases e_61 : n = 61
  · refine my_bei e_61 ?_
    refine lv_lookup (off := 147) (tgt := 148) hx hb dX7_joined_1 (by decide) (by decide) (by decide) ?_
    refine lv_lload_n hx hb dX7_joined_148 rfl (lv_at hl 1 rfl) ?_
    refine lv_lload_n hx hb dX7_joined_149 rfl (lv_at hl 2 rfl) ?_
    refine W.lcmp hx hb dX7_joined_150 ?_
    refine lv_if_ne (tgt := 158) hx hb dX7_joined_151 (by decide) (fun c_151 => ?_) (fun c_151 => ?_)
    · refine lv_iconst (v := 0) hx hb dX7_joined_158 (by decide) ?_
      refine rd_calll (va_runS (As := [.int 0]) (rest := []) ⟨hx, hb, hml, hown, hts⟩ (g_truthE l G g hg f 0  ) (my_cwS hts ok_X7_truth w_458 rfl rfl ⟨Nat.le_of_ble_eq_true rfl, Nat.le_of_ble_eq_true rfl⟩) ⟨bP.blind, fun U hU hW => ⟨rfl, by rw [hU]; exact hP, kG.warm hW hG⟩⟩ rfl rfl hl.1 rfl (lv_room (Nat.le_of_ble_eq_true rfl)) dX7_joined_159 ⟨Nat.le_of_ble_eq_true rfl, Nat.le_of_ble_eq_true rfl⟩) (fun r hr9 => ?_)
      subst hr9
      refine my_bel (v := 0) (if_pos rfl) ?_
      refine W_q9 hQ9 ?_
      exact W.lret (v := 0) hx hb hr (fun _ hT9 _ => ⟨_, rfl, (by unfold jn; rw [if_neg e_38, if_neg e_42, if_neg e_43, if_neg e_45, if_neg e_60, if_pos e_61, if_neg (fun z => c_151 ((lg_cmp_eq _ _).mpr z))]), hT9⟩) (fun _ h => absurd h List.not_mem_nil) dX7_joined_162
    · refine lv_iconst (v := 1) hx hb dX7_joined_154 (by decide) ?_
      refine lv_goto (tgt := 159) hx hb dX7_joined_155 (by decide) ?_
      refine rd_calll (va_runS (As := [.int 1]) (rest := []) ⟨hx, hb, hml, hown, hts⟩ (g_truthE l G g hg f 1  ) (my_cwS hts ok_X7_truth w_458 rfl rfl ⟨Nat.le_of_ble_eq_true rfl, Nat.le_of_ble_eq_true rfl⟩) ⟨bP.blind, fun U hU hW => ⟨rfl, by rw [hU]; exact hP, kG.warm hW hG⟩⟩ rfl rfl hl.1 rfl (lv_room (Nat.le_of_ble_eq_true rfl)) dX7_joined_159 ⟨Nat.le_of_ble_eq_true rfl, Nat.le_of_ble_eq_true rfl⟩) (fun r hr9 => ?_)
      subst hr9
      refine my_bel (v := 1) (if_neg (by decide)) ?_
      refine W_q9 hQ9 ?_
      exact W.lret (v := 1) hx hb hr (fun _ hT9 _ => ⟨_, rfl, (by unfold jn; rw [if_neg e_38, if_neg e_42, if_neg e_43, if_neg e_45, if_neg e_60, if_pos e_61, if_pos ((lg_cmp_eq _ _).mp c_151)]), hT9⟩) (fun _ h => absurd h List.not_mem_nil) dX7_joined_162
  by_cases e_62 : n = 62
  · refine my_bei e_62 ?_
    refine lv_lookup (off := 132) (tgt := 133) hx hb dX7_joined_1 (by decide) (by decide) (by decide) ?_
    refine lv_lload_n hx hb dX7_joined_133 rfl (lv_at hl 1 rfl) ?_
    refine lv_lload_n hx hb dX7_joined_134 rfl (lv_at hl 2 rfl) ?_
    refine W.lcmp hx hb dX7_joined_135 ?_
    refine lv_if_le (tgt := 143) hx hb dX7_joined_136 (by decide) (fun c_136 => ?_) (fun c_136 => ?_)
    · refine lv_iconst (v := 0) hx hb dX7_joined_143 (by decide) ?_
      refine rd_calll (va_runS (As := [.int 0]) (rest := []) ⟨hx, hb, hml, hown, hts⟩ (g_truthE l G g hg f 0  ) (my_cwS hts ok_X7_truth w_458 rfl rfl ⟨Nat.le_of_ble_eq_true rfl, Nat.le_of_ble_eq_true rfl⟩) ⟨bP.blind, fun U hU hW => ⟨rfl, by rw [hU]; exact hP, kG.warm hW hG⟩⟩ rfl rfl hl.1 rfl (lv_room (Nat.le_of_ble_eq_true rfl)) dX7_joined_144 ⟨Nat.le_of_ble_eq_true rfl, Nat.le_of_ble_eq_true rfl⟩) (fun r hr9 => ?_)
      subst hr9
      refine my_bel (v := 0) (if_pos rfl) ?_
      refine W_q9 hQ9 ?_
      exact W.lret (v := 0) hx hb hr (fun _ hT9 _ => ⟨_, rfl, (by unfold jn; rw [if_neg e_38, if_neg e_42, if_neg e_43, if_neg e_45, if_neg e_60, if_neg e_61, if_pos e_62, if_neg (fun z => absurd ((lg_cmp_gt _ _).mpr z) (Int32.not_lt.mpr c_136))]), hT9⟩) (fun _ h => absurd h List.not_mem_nil) dX7_joined_147
    · refine lv_iconst (v := 1) hx hb dX7_joined_139 (by decide) ?_
      refine lv_goto (tgt := 144) hx hb dX7_joined_140 (by decide) ?_
      refine rd_calll (va_runS (As := [.int 1]) (rest := []) ⟨hx, hb, hml, hown, hts⟩ (g_truthE l G g hg f 1  ) (my_cwS hts ok_X7_truth w_458 rfl rfl ⟨Nat.le_of_ble_eq_true rfl, Nat.le_of_ble_eq_true rfl⟩) ⟨bP.blind, fun U hU hW => ⟨rfl, by rw [hU]; exact hP, kG.warm hW hG⟩⟩ rfl rfl hl.1 rfl (lv_room (Nat.le_of_ble_eq_true rfl)) dX7_joined_144 ⟨Nat.le_of_ble_eq_true rfl, Nat.le_of_ble_eq_true rfl⟩) (fun r hr9 => ?_)
      subst hr9
      refine my_bel (v := 1) (if_neg (by decide)) ?_
      refine W_q9 hQ9 ?_
      exact W.lret (v := 1) hx hb hr (fun _ hT9 _ => ⟨_, rfl, (by unfold jn; rw [if_neg e_38, if_neg e_42, if_neg e_43, if_neg e_45, if_neg e_60, if_neg e_61, if_pos e_62, if_pos ((lg_cmp_gt _ _).mp (Int32.not_le.mp c_136))]), hT9⟩) (fun _ h => absurd h List.not_mem_nil) dX7_joined_147
  by_cases e_124 : n = 124
  · refine my_bei e_124 ?_
    refine lv_lookup (off := 75) (tgt := 76) hx hb dX7_joined_1 (by decide) (by decide) (by decide) ?_
    refine lv_lload_n hx hb dX7_joined_76 rfl (lv_at hl 1 rfl) ?_
    refine lv_lconst (v := 0) hx hb dX7_joined_77 (by decide) ?_
    refine W.lcmp hx hb dX7_joined_78 ?_
    refine lv_if_ne (tgt := 88) hx hb dX7_joined_79 (by decide) (fun c_79 => ?_) (fun c_79 => ?_)
    · refine lv_iconst (v := 1) hx hb dX7_joined_88 (by decide) ?_
      refine lv_goto (tgt := 93) hx hb dX7_joined_89 (by decide) ?_
      refine rd_calll (va_runS (As := [.int 1]) (rest := []) ⟨hx, hb, hml, hown, hts⟩ (g_truthE l G g hg f 1  ) (my_cwS hts ok_X7_truth w_458 rfl rfl ⟨Nat.le_of_ble_eq_true rfl, Nat.le_of_ble_eq_true rfl⟩) ⟨bP.blind, fun U hU hW => ⟨rfl, by rw [hU]; exact hP, kG.warm hW hG⟩⟩ rfl rfl hl.1 rfl (lv_room (Nat.le_of_ble_eq_true rfl)) dX7_joined_93 ⟨Nat.le_of_ble_eq_true rfl, Nat.le_of_ble_eq_true rfl⟩) (fun r hr9 => ?_)
      subst hr9
      refine my_bel (v := 1) (if_neg (by decide)) ?_
      refine W_q9 hQ9 ?_
      exact W.lret (v := 1) hx hb hr (fun _ hT9 _ => ⟨_, rfl, (by unfold jn; rw [if_neg e_38, if_neg e_42, if_neg e_43, if_neg e_45, if_neg e_60, if_neg e_61, if_neg e_62, if_pos e_124, if_pos (Or.inl (fun z => c_79 ((lg_cmp_eq _ _).mpr z)))]), hT9⟩) (fun _ h => absurd h List.not_mem_nil) dX7_joined_96
    · refine lv_lload_n hx hb dX7_joined_82 rfl (lv_at hl 2 rfl) ?_
      refine lv_lconst (v := 0) hx hb dX7_joined_83 (by decide) ?_
      refine W.lcmp hx hb dX7_joined_84 ?_
      refine lv_if_eq (tgt := 92) hx hb dX7_joined_85 (by decide) (fun c_85 => ?_) (fun c_85 => ?_)
      · refine lv_iconst (v := 0) hx hb dX7_joined_92 (by decide) ?_
        refine rd_calll (va_runS (As := [.int 0]) (rest := []) ⟨hx, hb, hml, hown, hts⟩ (g_truthE l G g hg f 0  ) (my_cwS hts ok_X7_truth w_458 rfl rfl ⟨Nat.le_of_ble_eq_true rfl, Nat.le_of_ble_eq_true rfl⟩) ⟨bP.blind, fun U hU hW => ⟨rfl, by rw [hU]; exact hP, kG.warm hW hG⟩⟩ rfl rfl hl.1 rfl (lv_room (Nat.le_of_ble_eq_true rfl)) dX7_joined_93 ⟨Nat.le_of_ble_eq_true rfl, Nat.le_of_ble_eq_true rfl⟩) (fun r hr9 => ?_)
        subst hr9
        refine my_bel (v := 0) (if_pos rfl) ?_
        refine W_q9 hQ9 ?_
        exact W.lret (v := 0) hx hb hr (fun _ hT9 _ => ⟨_, rfl, (by unfold jn; rw [if_neg e_38, if_neg e_42, if_neg e_43, if_neg e_45, if_neg e_60, if_neg e_61, if_neg e_62, if_pos e_124, if_neg (fun z => z.elim (fun q => q ((lg_cmp_eq _ _).mp c_79)) (fun q => q ((lg_cmp_eq _ _).mp c_85)))]), hT9⟩) (fun _ h => absurd h List.not_mem_nil) dX7_joined_96
      · refine lv_iconst (v := 1) hx hb dX7_joined_88 (by decide) ?_
        refine lv_goto (tgt := 93) hx hb dX7_joined_89 (by decide) ?_
        refine rd_calll (va_runS (As := [.int 1]) (rest := []) ⟨hx, hb, hml, hown, hts⟩ (g_truthE l G g hg f 1  ) (my_cwS hts ok_X7_truth w_458 rfl rfl ⟨Nat.le_of_ble_eq_true rfl, Nat.le_of_ble_eq_true rfl⟩) ⟨bP.blind, fun U hU hW => ⟨rfl, by rw [hU]; exact hP, kG.warm hW hG⟩⟩ rfl rfl hl.1 rfl (lv_room (Nat.le_of_ble_eq_true rfl)) dX7_joined_93 ⟨Nat.le_of_ble_eq_true rfl, Nat.le_of_ble_eq_true rfl⟩) (fun r hr9 => ?_)
        subst hr9
        refine my_bel (v := 1) (if_neg (by decide)) ?_
        refine W_q9 hQ9 ?_
        exact W.lret (v := 1) hx hb hr (fun _ hT9 _ => ⟨_, rfl, (by unfold jn; rw [if_neg e_38, if_neg e_42, if_neg e_43, if_neg e_45, if_neg e_60, if_neg e_61, if_neg e_62, if_pos e_124, if_pos (Or.inr (fun z => c_85 ((lg_cmp_eq _ _).mpr z)))]), hT9⟩) (fun _ h => absurd h List.not_mem_nil) dX7_joined_96
  refine lv_lookup (off := 174) (tgt := 175) hx hb dX7_joined_1 (by decide) (by show Op.lookupswitch.offset [(38, 96), (42, 170), (43, 162), (45, 166), (60, 117), (61, 147), (62, 132), (124, 75)] 174 _ = 174; rw [lv_osw (a := 38) e_38 (by decide), lv_osw (a := 42) e_42 (by decide), lv_osw (a := 43) e_43 (by decide), lv_osw (a := 45) e_45 (by decide), lv_osw (a := 60) e_60 (by decide), lv_osw (a := 61) e_61 (by decide), lv_osw (a := 62) e_62 (by decide), lv_osw (a := 124) e_124 (by decide)]; rfl) (by decide) ?_
  refine lv_lload_n hx hb dX7_joined_175 rfl (lv_at hl 2 rfl) ?_
  refine lv_lconst (v := 0) hx hb dX7_joined_176 (by decide) ?_
  refine W.lcmp hx hb dX7_joined_177 ?_
  refine lv_if_ne (tgt := 185) hx hb dX7_joined_178 (by decide) (fun c_178 => ?_) (fun c_178 => ?_)
  · refine lv_lload_n hx hb dX7_joined_185 rfl (lv_at hl 1 rfl) ?_
    refine lv_lload_n hx hb dX7_joined_186 rfl (lv_at hl 2 rfl) ?_
    refine lv_ldiv hx hb dX7_joined_187 (fun z => c_178 ((lg_cmp_eq _ _).mpr z)) ?_
    refine W_q9 hQ9 ?_
    exact W.lret (v := u / v) hx hb hr (fun _ hT9 _ => ⟨_, rfl, (by unfold jn; rw [if_neg e_38, if_neg e_42, if_neg e_43, if_neg e_45, if_neg e_60, if_neg e_61, if_neg e_62, if_neg e_124, if_neg (fun z => c_178 ((lg_cmp_eq _ _).mpr z))]), hT9⟩) (fun _ h => absurd h List.not_mem_nil) dX7_joined_188
  · refine lv_lconst (v := 0) hx hb dX7_joined_181 (by decide) ?_
    refine lv_goto (tgt := 188) hx hb dX7_joined_182 (by decide) ?_
    refine W_q9 hQ9 ?_
    exact W.lret (v := 0) hx hb hr (fun _ hT9 _ => ⟨_, rfl, (by unfold jn; rw [if_neg e_38, if_neg e_42, if_neg e_43, if_neg e_45, if_neg e_60, if_neg e_61, if_neg e_62, if_neg e_124, if_pos ((lg_cmp_eq _ _).mp c_178)]), hT9⟩) (fun _ h => absurd h List.not_mem_nil) dX7_joined_188
set_option maxHeartbeats 4000000 in
set_option maxRecDepth 100000 in
theorem u_timesSatE (l : Launch) (G : gW) (g : Nat → Nat) (hg : gOK g) (f : Nat → va_E) (se : Nat) (hf : Nat → Option Nat) (pay : Int32) (fine : Int32) (nt : Nat) (ct : Nat → Int32) (sw : Nat → Int32) (pn : Nat) (q : Int32) (hctc : f 1 = eO 1 [.ref (g 36), .ref (g 12), .ref (g 13), .ref (g 15), .int (nI se)]) (hhs : f 12 = eA G 4 10 hf) (hbk : f 36 = eO 0 [.ref (g 37), .ref (g 39), .ref (g 41), .ref (g 43), .ref (g 45), .ref (g 47), .ref (g 112), .int pay, .int fine]) (htr : f 45 = eO 5 [.int (nI 10), .int (nI 70), .ref (g 46), .int (nI nt)]) (hct : f 46 = eI G (10 * 70) ct) (hse : se ≤ 10) (hhf : ∀ i, i < 10 → hf i = some (g (2 * i + 16))) (hnt : nt ≤ 10) (hZ : ∀ i, i < 10 → okZ G g f (2 * i + 16) (sw i)) (hpn30 : pn < 30) : Met l yX1_timesSat (wsT yX1_timesSat cX1_timesSat 5 (some .int)) ({ frames := 1, cells := 0, slots := 0, locals := 23 }) (bP G g f [.ref (g 1), .int (nI pn), .int q]) (rQi (fun z9 => z9 = nI (satN (fun t c => ct (70 * t + c)) sw q pn nt))) 0 0 fr0 := by
  refine Met.ofW (cc := cX1_timesSat) (maxL := 5) (ret := (some .int)) (by decide) rfl ?_
  intro p e s m args below meth c s₁ B hml hv
  obtain ⟨rfl, hP, hG⟩ := hv
  have hx := B.exec
  have hb := B.bytes
  have hr := B.returns
  have hts := my_hts (atoms_spec (ws := wsT yX1_timesSat cX1_timesSat 5 (some .int)) B.pre)
  have hown : s.vm.findClass RX1 = some m.cls := findClass_of_methodNamed B.named
  have hlocks := B.notSynchronized
  have hl := lv_entry ([.ref (g 1), .int (nI pn), .int q]) (n := 5) (Nat.le_of_ble_eq_true rfl)
  rw [lg_entry_eq]
  generalize (lg_sl ([.ref (g 1), .int (nI pn), .int q]) ++ List.replicate (5 - (lg_sl ([.ref (g 1), .int (nI pn), .int q])).length) Slot.unset).toArray = ls at hl ⊢
  have hl : lv_has ls 5 [(0, .ref (g 1)), (1, .int (nI pn)), (2, .int q)] := hl
  refine W_q8 (fun Q9 hQ9 => ?_)
  refine lv_iconst (v := 0) hx hb dX1_timesSat_0 (by decide) ?_
  refine lv_istore_n (lv' := [(3, .int 0), (0, .ref (g 1)), (1, .int (nI pn)), (2, .int q)]) hx hb dX1_timesSat_1 rfl hl (by decide) rfl (fun ls hl => ?_)
  refine lv_iconst (v := 0) hx hb dX1_timesSat_2 (by decide) ?_
  refine lv_istore (lv' := [(4, .int 0), (3, .int 0), (0, .ref (g 1)), (1, .int (nI pn)), (2, .int q)]) hx hb dX1_timesSat_3 hl (by decide) rfl (fun ls hl => ?_)
  have key1 : ∀ (n9_1 : Nat) (i : Nat) (u : Nat) (ls : Array Slot), (i ≤ nt) → (u = satN (fun t c => ct (70 * t + c)) sw q pn i) → nt - i < n9_1 → lv_has ls 5 [(0, .ref (g 1)), (1, .int (nI pn)), (2, .int q), (3, .int (nI u)), (4, .int (nI i))] → W p l e (headSpec (wsT yX1_timesSat cX1_timesSat 5 (some .int)) ({ frames := 1, cells := 0, slots := 0, locals := 23 })).room s m ([.ref (g 1), .int (nI pn), .int q] : List Value).toArray below meth c s.heap [] 0 0 Q9 (F0 m 5 ls []) := by
    intro n9_1
    induction n9_1 with
    | zero => intro i u ls hi hu hn9_1; exact absurd hn9_1 (Nat.not_lt_zero _)
    | succ n9_1 ih_1 =>
      intro i u ls hi hu hn9_1 hl
      refine lv_iload hx hb dX1_timesSat_5 (lv_at hl 4 rfl) ?_
      refine lv_aload_n hx hb dX1_timesSat_7 rfl (lv_at hl 0 rfl) ?_
      refine va_get (D := G.1) (ci := 1) (v := .ref (g 36)) (C := RX1) (T := TX1) (N := 5) hx hb hts inlX1 hown hG.1 hP 1 (wl_at (by decide) hctc) rfl 0 (by decide) (hts (.fieldLink RX1 12 "SwornLists$Court" "book" "LSwornLists$Book;") w_40) (fun _ h9 => h9) rfl dX1_timesSat_8 ?_
      refine va_getN (D := G.1) (ci := 0) (v := .ref (g 45)) (C := RX0) (T := TX0) (N := 9) (host := RX10) hx hb hts inlX0 hown hG.1 hP 36 (wl_at (by decide) hbk) rfl 4 (by decide) (va_Nw.use rfl (hG.2.1 (.fieldLinkNest RX1 43 RX0 "trials" "LSwornLists$Rows;" RX10) (List.mem_of_getElem? (i := 6) rfl))) (fun _ h9 => h9) rfl dX1_timesSat_11 ?_
      refine rd_calli (va_runV (As := []) (rest := [.int (nI i)]) ⟨hx, hb, hml, hown, hts⟩ (r_size l G g hg f 45 10 70 nt htr (by first | assumption | omega | decide) (by first | assumption | omega | decide) (by first | assumption | omega | decide) (by first | assumption | omega | decide)) (my_cwV hts ok_X5_size w_388 rfl rfl ⟨Nat.le_of_ble_eq_true rfl, Nat.le_of_ble_eq_true rfl⟩) ⟨bP.blind, va_recv hG.1 hP (ci := 5) (q0 := 45) rfl (wl_at (by decide) htr), fun U hU hW => ⟨rfl, by rw [hU]; exact hP, kG.warm hW hG⟩⟩ rfl rfl hl.1 rfl (lv_room (Nat.le_of_ble_eq_true rfl)) dX1_timesSat_14 ⟨Nat.le_of_ble_eq_true rfl, Nat.le_of_ble_eq_true rfl⟩) (fun r hr9 => ?_)
      subst hr9
      refine lv_icmp_ge (tgt := 62) hx hb dX1_timesSat_17 (by decide) (fun c_17 => ?_) (fun c_17 => ?_)
      · have hin : i = nt := by
          have h9 := (nI_leI (by omega) (by omega)).mp c_17
          omega
        rw [hin] at hu
        refine lv_iload_n hx hb dX1_timesSat_62 rfl (lv_at hl 3 rfl) ?_
        refine W_q9 hQ9 ?_
        exact W.iret (v := nI u) hx hb hr (fun _ hT9 _ => ⟨_, rfl, (by rw [hu]), hT9⟩) (fun _ h => absurd h List.not_mem_nil) dX1_timesSat_63
      · have hi9 : i < nt := Nat.not_le.mp (fun z => c_17 (nI_le z (by omega)))
        obtain ⟨sl7, lo7, ib7, ca7, mi7, s07, s17, od7, hh7, ho7, hs7⟩ := hZ i (by omega)
        refine lv_aload_n hx hb dX1_timesSat_20 rfl (lv_at hl 0 rfl) ?_
        refine va_get (D := G.1) (ci := 1) (v := .ref (g 36)) (C := RX1) (T := TX1) (N := 5) hx hb hts inlX1 hown hG.1 hP 1 (wl_at (by decide) hctc) rfl 0 (by decide) (hts (.fieldLink RX1 12 "SwornLists$Court" "book" "LSwornLists$Book;") w_40) (fun _ h9 => h9) rfl dX1_timesSat_21 ?_
        refine va_getN (D := G.1) (ci := 0) (v := .ref (g 45)) (C := RX0) (T := TX0) (N := 9) (host := RX10) hx hb hts inlX0 hown hG.1 hP 36 (wl_at (by decide) hbk) rfl 4 (by decide) (va_Nw.use rfl (hG.2.1 (.fieldLinkNest RX1 43 RX0 "trials" "LSwornLists$Rows;" RX10) (List.mem_of_getElem? (i := 6) rfl))) (fun _ h9 => h9) rfl dX1_timesSat_24 ?_
        refine lv_iload hx hb dX1_timesSat_27 (lv_at hl 4 rfl) ?_
        refine lv_iconst (v := 0) hx hb dX1_timesSat_29 (by decide) ?_
        refine rd_calli (va_runV (As := [.int (nI i), .int 0]) (rest := []) ⟨hx, hb, hml, hown, hts⟩ (r_at l G g hg f 45 10 70 nt ct (nI i) 0 htr hct (by first | assumption | omega | decide) (by first | assumption | omega | decide) (by first | assumption | omega | decide) (by first | assumption | omega | decide)) (my_cwV hts ok_X5_at w_389 rfl rfl ⟨Nat.le_of_ble_eq_true rfl, Nat.le_of_ble_eq_true rfl⟩) ⟨bP.blind, va_recv hG.1 hP (ci := 5) (q0 := 45) rfl (wl_at (by decide) htr), fun U hU hW => ⟨rfl, by rw [hU]; exact hP, kG.warm hW hG⟩⟩ rfl rfl hl.1 rfl (lv_room (Nat.le_of_ble_eq_true rfl)) dX1_timesSat_30 ⟨Nat.le_of_ble_eq_true rfl, Nat.le_of_ble_eq_true rfl⟩) (fun r hr9 => ?_)
        subst hr9
        refine my_bei (v := ct (70 * i + 0)) (atQ (d := ct) (w := 70) (i := i) (c := 0) hi9 (by omega) (by omega) (by omega)) ?_
        refine lv_iload_n hx hb dX1_timesSat_33 rfl (lv_at hl 2 rfl) ?_
        refine lv_icmp_ge (tgt := 56) hx hb dX1_timesSat_34 (by decide) (fun c_34 => ?_) (fun c_34 => ?_)
        · refine lv_iinc (v := nI (i + 1)) (lv' := [(4, .int (nI (i + 1))), (0, .ref (g 1)), (1, .int (nI pn)), (2, .int q), (3, .int (nI u))]) hx hb dX1_timesSat_56 hl (k := 4) rfl (nI_1 i) (by decide) rfl (fun ls hl => ?_)
          refine lv_goto (tgt := 5) hx hb dX1_timesSat_59 (by decide) ?_
          exact ih_1 (i + 1) u _ (hi9) (by rw [hu, satN_n (T := (fun t c => ct (70 * t + c))) (J := sw) (fun z => absurd z.1 (Int32.not_lt.mpr c_34))]) (by omega) (lv_sub hl [1, 2, 3, 4, 0] rfl)
        · refine lv_aload_n hx hb dX1_timesSat_37 rfl (lv_at hl 0 rfl) ?_
          refine lv_iload hx hb dX1_timesSat_38 (lv_at hl 4 rfl) ?_
          refine rd_calla (va_runV (As := [.int (nI i)]) (rest := []) ⟨hx, hb, hml, hown, hts⟩ (u_hearing l G g hg f se hf i hctc hhs (by first | assumption | omega | decide) (by first | assumption | omega | decide) (by first | assumption | omega | decide)) (my_cwV hts ok_X1_hearing w_390 rfl rfl ⟨Nat.le_of_ble_eq_true rfl, Nat.le_of_ble_eq_true rfl⟩) ⟨bP.blind, va_recv hG.1 hP (ci := 1) (q0 := 1) rfl (wl_at (by decide) hctc), fun U hU hW => ⟨rfl, by rw [hU]; exact hP, kG.warm hW hG⟩⟩ rfl rfl hl.1 rfl (lv_room (Nat.le_of_ble_eq_true rfl)) dX1_timesSat_40 ⟨Nat.le_of_ble_eq_true rfl, Nat.le_of_ble_eq_true rfl⟩) (fun r hr9 => ?_)
          subst hr9
          refine va_getN (D := G.1) (ci := 3) (v := .int (sw i)) (C := RX3) (T := TX3) (N := 9) (host := RX10) hx hb hts inlX3 hown hG.1 hP (2 * i + 16) (wl_at (by omega) hh7) rfl 8 (by decide) (va_Nw.use rfl (hG.2.1 (.fieldLinkNest RX1 107 RX3 "sworn" "I" RX10) (List.mem_of_getElem? (i := 15) rfl))) (fun _ h9 => h9) rfl dX1_timesSat_43 ?_
          refine lv_iload_n hx hb dX1_timesSat_46 rfl (lv_at hl 1 rfl) ?_
          refine rd_calli (va_runSN (As := [.int (sw i), .int (nI pn)]) (rest := []) ⟨hx, hb, hml, hown, hts⟩ (s_hasBit l G g hg f (sw i) (nI pn)  ) (⟨my_cn hts ok_X10_hasBit.1 (hG.2.1 (.methodLinkNest RX1 113 yX10_hasBit RX10) (List.mem_of_getElem? (i := 31) rfl)) rfl rfl ⟨Nat.le_of_ble_eq_true rfl, Nat.le_of_ble_eq_true rfl⟩, hts _ ok_X10_hasBit.2.2.1, trivial⟩) ⟨bP.blind, fun U hU hW => ⟨rfl, by rw [hU]; exact hP, kG.warm hW hG⟩⟩ rfl rfl hl.1 rfl (lv_room (Nat.le_of_ble_eq_true rfl)) dX1_timesSat_47 ⟨Nat.le_of_ble_eq_true rfl, Nat.le_of_ble_eq_true rfl⟩) (fun r hr9 => ?_)
          subst hr9
          refine my_ifeq (tgt := 56) hx hb dX1_timesSat_50 (by decide) (fun c_50 => ?_) (fun c_50 => ?_)
          · refine lv_iinc (v := nI (i + 1)) (lv' := [(4, .int (nI (i + 1))), (0, .ref (g 1)), (1, .int (nI pn)), (2, .int q), (3, .int (nI u))]) hx hb dX1_timesSat_56 hl (k := 4) rfl (nI_1 i) (by decide) rfl (fun ls hl => ?_)
            refine lv_goto (tgt := 5) hx hb dX1_timesSat_59 (by decide) ?_
            exact ih_1 (i + 1) u _ (hi9) (by rw [hu, satN_n (T := (fun t c => ct (70 * t + c))) (J := sw) (fun z => c_50 (by rw [hbt_bt (by omega)]; exact z.2))]) (by omega) (lv_sub hl [1, 2, 3, 4, 0] rfl)
          · refine lv_iinc (v := nI (u + 1)) (lv' := [(3, .int (nI (u + 1))), (0, .ref (g 1)), (1, .int (nI pn)), (2, .int q), (4, .int (nI i))]) hx hb dX1_timesSat_53 hl (k := 3) rfl (nI_1 u) (by decide) rfl (fun ls hl => ?_)
            refine lv_iinc (v := nI (i + 1)) (lv' := [(4, .int (nI (i + 1))), (3, .int (nI (u + 1))), (0, .ref (g 1)), (1, .int (nI pn)), (2, .int q)]) hx hb dX1_timesSat_56 hl (k := 4) rfl (nI_1 i) (by decide) rfl (fun ls hl => ?_)
            refine lv_goto (tgt := 5) hx hb dX1_timesSat_59 (by decide) ?_
            exact ih_1 (i + 1) (u + 1) _ (hi9) (by rw [hu, satN_y (T := (fun t c => ct (70 * t + c))) (J := sw) ⟨Int32.not_le.mp c_34, by rw [← hbt_bt (by omega)]; exact c_50⟩]) (by omega) (lv_sub hl [2, 3, 4, 1, 0] rfl)
  exact key1 (nt + 1) 0 0 _ (Nat.zero_le _) (rfl) (by omega) (lv_sub hl [2, 3, 4, 1, 0] rfl)
set_option maxHeartbeats 4000000 in
set_option maxRecDepth 100000 in
theorem u_yearsSinceE (l : Launch) (G : gW) (g : Nat → Nat) (hg : gOK g) (f : Nat → va_E) (se : Nat) (hf : Nat → Option Nat) (pay : Int32) (fine : Int32) (nt : Nat) (ct : Nat → Int32) (sw : Nat → Int32) (pn : Nat) (q : Int32) (hctc : f 1 = eO 1 [.ref (g 36), .ref (g 12), .ref (g 13), .ref (g 15), .int (nI se)]) (hhs : f 12 = eA G 4 10 hf) (hbk : f 36 = eO 0 [.ref (g 37), .ref (g 39), .ref (g 41), .ref (g 43), .ref (g 45), .ref (g 47), .ref (g 112), .int pay, .int fine]) (htr : f 45 = eO 5 [.int (nI 10), .int (nI 70), .ref (g 46), .int (nI nt)]) (hct : f 46 = eI G (10 * 70) ct) (hse : se ≤ 10) (hhf : ∀ i, i < 10 → hf i = some (g (2 * i + 16))) (hnt : nt ≤ 10) (hZ : ∀ i, i < 10 → okZ G g f (2 * i + 16) (sw i)) (hpn30 : pn < 30) : Met l yX1_yearsSince (wsT yX1_yearsSince cX1_yearsSince 6 (some .int)) ({ frames := 1, cells := 0, slots := 0, locals := 23 }) (bP G g f [.ref (g 1), .int (nI pn), .int q]) (rQi (fun z9 => z9 = sinV (fun t c => ct (70 * t + c)) sw q pn nt)) 0 0 fr0 := by
  refine Met.ofW (cc := cX1_yearsSince) (maxL := 6) (ret := (some .int)) (by decide) rfl ?_
  intro p e s m args below meth c s₁ B hml hv
  obtain ⟨rfl, hP, hG⟩ := hv
  have hx := B.exec
  have hb := B.bytes
  have hr := B.returns
  have hts := my_hts (atoms_spec (ws := wsT yX1_yearsSince cX1_yearsSince 6 (some .int)) B.pre)
  have hown : s.vm.findClass RX1 = some m.cls := findClass_of_methodNamed B.named
  have hlocks := B.notSynchronized
  have hl := lv_entry ([.ref (g 1), .int (nI pn), .int q]) (n := 6) (Nat.le_of_ble_eq_true rfl)
  rw [lg_entry_eq]
  generalize (lg_sl ([.ref (g 1), .int (nI pn), .int q]) ++ List.replicate (6 - (lg_sl ([.ref (g 1), .int (nI pn), .int q])).length) Slot.unset).toArray = ls at hl ⊢
  have hl : lv_has ls 6 [(0, .ref (g 1)), (1, .int (nI pn)), (2, .int q)] := hl
  refine W_q8 (fun Q9 hQ9 => ?_)
  refine lv_sipush (v := 999) hx hb dX1_yearsSince_0 (by decide) ?_
  refine lv_istore_n (lv' := [(3, .int 999), (0, .ref (g 1)), (1, .int (nI pn)), (2, .int q)]) hx hb dX1_yearsSince_3 rfl hl (by decide) rfl (fun ls hl => ?_)
  refine lv_iconst (v := 0) hx hb dX1_yearsSince_4 (by decide) ?_
  refine lv_istore (lv' := [(4, .int 0), (3, .int 999), (0, .ref (g 1)), (1, .int (nI pn)), (2, .int q)]) hx hb dX1_yearsSince_5 hl (by decide) rfl (fun ls hl => ?_)
  have key1 : ∀ (n9_1 : Nat) (i : Nat) (u : Int32) (ls : Array Slot), (i ≤ nt) → (u = sinV (fun t c => ct (70 * t + c)) sw q pn i) → nt - i < n9_1 → lv_has ls 6 [(0, .ref (g 1)), (1, .int (nI pn)), (2, .int q), (3, .int u), (4, .int (nI i))] → W p l e (headSpec (wsT yX1_yearsSince cX1_yearsSince 6 (some .int)) ({ frames := 1, cells := 0, slots := 0, locals := 23 })).room s m ([.ref (g 1), .int (nI pn), .int q] : List Value).toArray below meth c s.heap [] 0 0 Q9 (F0 m 7 ls []) := by
    intro n9_1
    induction n9_1 with
    | zero => intro i u ls hi hu hn9_1; exact absurd hn9_1 (Nat.not_lt_zero _)
    | succ n9_1 ih_1 =>
      intro i u ls hi hu hn9_1 hl
      refine lv_iload hx hb dX1_yearsSince_7 (lv_at hl 4 rfl) ?_
      refine lv_aload_n hx hb dX1_yearsSince_9 rfl (lv_at hl 0 rfl) ?_
      refine va_get (D := G.1) (ci := 1) (v := .ref (g 36)) (C := RX1) (T := TX1) (N := 5) hx hb hts inlX1 hown hG.1 hP 1 (wl_at (by decide) hctc) rfl 0 (by decide) (hts (.fieldLink RX1 12 "SwornLists$Court" "book" "LSwornLists$Book;") w_40) (fun _ h9 => h9) rfl dX1_yearsSince_10 ?_
      refine va_getN (D := G.1) (ci := 0) (v := .ref (g 45)) (C := RX0) (T := TX0) (N := 9) (host := RX10) hx hb hts inlX0 hown hG.1 hP 36 (wl_at (by decide) hbk) rfl 4 (by decide) (va_Nw.use rfl (hG.2.1 (.fieldLinkNest RX1 43 RX0 "trials" "LSwornLists$Rows;" RX10) (List.mem_of_getElem? (i := 6) rfl))) (fun _ h9 => h9) rfl dX1_yearsSince_13 ?_
      refine rd_calli (va_runV (As := []) (rest := [.int (nI i)]) ⟨hx, hb, hml, hown, hts⟩ (r_size l G g hg f 45 10 70 nt htr (by first | assumption | omega | decide) (by first | assumption | omega | decide) (by first | assumption | omega | decide) (by first | assumption | omega | decide)) (my_cwV hts ok_X5_size w_388 rfl rfl ⟨Nat.le_of_ble_eq_true rfl, Nat.le_of_ble_eq_true rfl⟩) ⟨bP.blind, va_recv hG.1 hP (ci := 5) (q0 := 45) rfl (wl_at (by decide) htr), fun U hU hW => ⟨rfl, by rw [hU]; exact hP, kG.warm hW hG⟩⟩ rfl rfl hl.1 rfl (lv_room (Nat.le_of_ble_eq_true rfl)) dX1_yearsSince_16 ⟨Nat.le_of_ble_eq_true rfl, Nat.le_of_ble_eq_true rfl⟩) (fun r hr9 => ?_)
      subst hr9
      refine lv_icmp_ge (tgt := 76) hx hb dX1_yearsSince_19 (by decide) (fun c_19 => ?_) (fun c_19 => ?_)
      · have hin : i = nt := by
          have h9 := (nI_leI (by omega) (by omega)).mp c_19
          omega
        rw [hin] at hu
        refine lv_iload_n hx hb dX1_yearsSince_76 rfl (lv_at hl 3 rfl) ?_
        refine W_q9 hQ9 ?_
        exact W.iret (v := u) hx hb hr (fun _ hT9 _ => ⟨_, rfl, (hu), hT9⟩) (fun _ h => absurd h List.not_mem_nil) dX1_yearsSince_77
      · have hi9 : i < nt := Nat.not_le.mp (fun z => c_19 (nI_le z (by omega)))
        obtain ⟨sl7, lo7, ib7, ca7, mi7, s07, s17, od7, hh7, ho7, hs7⟩ := hZ i (by omega)
        refine lv_aload_n hx hb dX1_yearsSince_22 rfl (lv_at hl 0 rfl) ?_
        refine va_get (D := G.1) (ci := 1) (v := .ref (g 36)) (C := RX1) (T := TX1) (N := 5) hx hb hts inlX1 hown hG.1 hP 1 (wl_at (by decide) hctc) rfl 0 (by decide) (hts (.fieldLink RX1 12 "SwornLists$Court" "book" "LSwornLists$Book;") w_40) (fun _ h9 => h9) rfl dX1_yearsSince_23 ?_
        refine va_getN (D := G.1) (ci := 0) (v := .ref (g 45)) (C := RX0) (T := TX0) (N := 9) (host := RX10) hx hb hts inlX0 hown hG.1 hP 36 (wl_at (by decide) hbk) rfl 4 (by decide) (va_Nw.use rfl (hG.2.1 (.fieldLinkNest RX1 43 RX0 "trials" "LSwornLists$Rows;" RX10) (List.mem_of_getElem? (i := 6) rfl))) (fun _ h9 => h9) rfl dX1_yearsSince_26 ?_
        refine lv_iload hx hb dX1_yearsSince_29 (lv_at hl 4 rfl) ?_
        refine lv_iconst (v := 0) hx hb dX1_yearsSince_31 (by decide) ?_
        refine rd_calli (va_runV (As := [.int (nI i), .int 0]) (rest := []) ⟨hx, hb, hml, hown, hts⟩ (r_at l G g hg f 45 10 70 nt ct (nI i) 0 htr hct (by first | assumption | omega | decide) (by first | assumption | omega | decide) (by first | assumption | omega | decide) (by first | assumption | omega | decide)) (my_cwV hts ok_X5_at w_389 rfl rfl ⟨Nat.le_of_ble_eq_true rfl, Nat.le_of_ble_eq_true rfl⟩) ⟨bP.blind, va_recv hG.1 hP (ci := 5) (q0 := 45) rfl (wl_at (by decide) htr), fun U hU hW => ⟨rfl, by rw [hU]; exact hP, kG.warm hW hG⟩⟩ rfl rfl hl.1 rfl (lv_room (Nat.le_of_ble_eq_true rfl)) dX1_yearsSince_32 ⟨Nat.le_of_ble_eq_true rfl, Nat.le_of_ble_eq_true rfl⟩) (fun r hr9 => ?_)
        subst hr9
        refine my_bei (v := ct (70 * i + 0)) (atQ (d := ct) (w := 70) (i := i) (c := 0) hi9 (by omega) (by omega) (by omega)) ?_
        refine lv_istore (lv' := [(5, .int (ct (70 * i + 0))), (0, .ref (g 1)), (1, .int (nI pn)), (2, .int q), (3, .int u), (4, .int (nI i))]) hx hb dX1_yearsSince_35 hl (by decide) rfl (fun ls hl => ?_)
        refine lv_iload hx hb dX1_yearsSince_37 (lv_at hl 0 rfl) ?_
        refine lv_iload_n hx hb dX1_yearsSince_39 rfl (lv_at hl 3 rfl) ?_
        refine lv_icmp_ge (tgt := 70) hx hb dX1_yearsSince_40 (by decide) (fun c_40 => ?_) (fun c_40 => ?_)
        · refine lv_iinc (v := nI (i + 1)) (lv' := [(4, .int (nI (i + 1))), (5, .int (ct (70 * i + 0))), (0, .ref (g 1)), (1, .int (nI pn)), (2, .int q), (3, .int u)]) hx hb dX1_yearsSince_70 hl (k := 5) rfl (nI_1 i) (by decide) rfl (fun ls hl => ?_)
          refine lv_goto (tgt := 7) hx hb dX1_yearsSince_73 (by decide) ?_
          exact ih_1 (i + 1) u _ (hi9) (by rw [hu, sinV_n (T := (fun t c => ct (70 * t + c))) (J := sw) (fun z => absurd z.1 (Int32.not_lt.mpr c_40))]) (by omega) (lv_sub hl [2, 3, 4, 5, 0] rfl)
        · refine lv_aload_n hx hb dX1_yearsSince_43 rfl (lv_at hl 1 rfl) ?_
          refine lv_iload hx hb dX1_yearsSince_44 (lv_at hl 5 rfl) ?_
          refine rd_calla (va_runV (As := [.int (nI i)]) (rest := []) ⟨hx, hb, hml, hown, hts⟩ (u_hearing l G g hg f se hf i hctc hhs (by first | assumption | omega | decide) (by first | assumption | omega | decide) (by first | assumption | omega | decide)) (my_cwV hts ok_X1_hearing w_390 rfl rfl ⟨Nat.le_of_ble_eq_true rfl, Nat.le_of_ble_eq_true rfl⟩) ⟨bP.blind, va_recv hG.1 hP (ci := 1) (q0 := 1) rfl (wl_at (by decide) hctc), fun U hU hW => ⟨rfl, by rw [hU]; exact hP, kG.warm hW hG⟩⟩ rfl rfl hl.1 rfl (lv_room (Nat.le_of_ble_eq_true rfl)) dX1_yearsSince_46 ⟨Nat.le_of_ble_eq_true rfl, Nat.le_of_ble_eq_true rfl⟩) (fun r hr9 => ?_)
          subst hr9
          refine va_getN (D := G.1) (ci := 3) (v := .int (sw i)) (C := RX3) (T := TX3) (N := 9) (host := RX10) hx hb hts inlX3 hown hG.1 hP (2 * i + 16) (wl_at (by omega) hh7) rfl 8 (by decide) (va_Nw.use rfl (hG.2.1 (.fieldLinkNest RX1 107 RX3 "sworn" "I" RX10) (List.mem_of_getElem? (i := 15) rfl))) (fun _ h9 => h9) rfl dX1_yearsSince_49 ?_
          refine lv_iload_n hx hb dX1_yearsSince_52 rfl (lv_at hl 2 rfl) ?_
          refine rd_calli (va_runSN (As := [.int (sw i), .int (nI pn)]) (rest := []) ⟨hx, hb, hml, hown, hts⟩ (s_hasBit l G g hg f (sw i) (nI pn)  ) (⟨my_cn hts ok_X10_hasBit.1 (hG.2.1 (.methodLinkNest RX1 113 yX10_hasBit RX10) (List.mem_of_getElem? (i := 31) rfl)) rfl rfl ⟨Nat.le_of_ble_eq_true rfl, Nat.le_of_ble_eq_true rfl⟩, hts _ ok_X10_hasBit.2.2.1, trivial⟩) ⟨bP.blind, fun U hU hW => ⟨rfl, by rw [hU]; exact hP, kG.warm hW hG⟩⟩ rfl rfl hl.1 rfl (lv_room (Nat.le_of_ble_eq_true rfl)) dX1_yearsSince_53 ⟨Nat.le_of_ble_eq_true rfl, Nat.le_of_ble_eq_true rfl⟩) (fun r hr9 => ?_)
          subst hr9
          refine my_ifeq (tgt := 70) hx hb dX1_yearsSince_56 (by decide) (fun c_56 => ?_) (fun c_56 => ?_)
          · refine lv_iinc (v := nI (i + 1)) (lv' := [(4, .int (nI (i + 1))), (5, .int (ct (70 * i + 0))), (0, .ref (g 1)), (1, .int (nI pn)), (2, .int q), (3, .int u)]) hx hb dX1_yearsSince_70 hl (k := 5) rfl (nI_1 i) (by decide) rfl (fun ls hl => ?_)
            refine lv_goto (tgt := 7) hx hb dX1_yearsSince_73 (by decide) ?_
            exact ih_1 (i + 1) u _ (hi9) (by rw [hu, sinV_n (T := (fun t c => ct (70 * t + c))) (J := sw) (fun z => c_56 (by rw [hbt_bt (by omega)]; exact z.2))]) (by omega) (lv_sub hl [2, 3, 4, 5, 0] rfl)
          · refine lv_iload_n hx hb dX1_yearsSince_59 rfl (lv_at hl 3 rfl) ?_
            refine rd_calli (va_runSN (As := [.int q]) (rest := []) ⟨hx, hb, hml, hown, hts⟩ (s_yearOf l G g hg f q  ) (⟨my_cn hts ok_X10_yearOf.1 (hG.2.1 (.methodLinkNest RX1 145 yX10_yearOf RX10) (List.mem_of_getElem? (i := 32) rfl)) rfl rfl ⟨Nat.le_of_ble_eq_true rfl, Nat.le_of_ble_eq_true rfl⟩, hts _ ok_X10_yearOf.2.2.1, trivial⟩) ⟨bP.blind, fun U hU hW => ⟨rfl, by rw [hU]; exact hP, kG.warm hW hG⟩⟩ rfl rfl hl.1 rfl (lv_room (Nat.le_of_ble_eq_true rfl)) dX1_yearsSince_60 ⟨Nat.le_of_ble_eq_true rfl, Nat.le_of_ble_eq_true rfl⟩) (fun r hr9 => ?_)
            subst hr9
            refine lv_iload hx hb dX1_yearsSince_63 (lv_at hl 0 rfl) ?_
            refine rd_calli (va_runSN (As := [.int (ct (70 * i + 0))]) (rest := [.int (100 + q / 100)]) ⟨hx, hb, hml, hown, hts⟩ (s_yearOf l G g hg f (ct (70 * i + 0))  ) (⟨my_cn hts ok_X10_yearOf.1 (hG.2.1 (.methodLinkNest RX1 145 yX10_yearOf RX10) (List.mem_of_getElem? (i := 32) rfl)) rfl rfl ⟨Nat.le_of_ble_eq_true rfl, Nat.le_of_ble_eq_true rfl⟩, hts _ ok_X10_yearOf.2.2.1, trivial⟩) ⟨bP.blind, fun U hU hW => ⟨rfl, by rw [hU]; exact hP, kG.warm hW hG⟩⟩ rfl rfl hl.1 rfl (lv_room (Nat.le_of_ble_eq_true rfl)) dX1_yearsSince_65 ⟨Nat.le_of_ble_eq_true rfl, Nat.le_of_ble_eq_true rfl⟩) (fun r hr9 => ?_)
            subst hr9
            refine lv_isub hx hb dX1_yearsSince_68 ?_
            refine lv_istore_n (lv' := [(3, .int ((100 + q / 100) - (100 + (ct (70 * i + 0)) / 100))), (5, .int (ct (70 * i + 0))), (0, .ref (g 1)), (1, .int (nI pn)), (2, .int q), (4, .int (nI i))]) hx hb dX1_yearsSince_69 rfl hl (by decide) rfl (fun ls hl => ?_)
            refine lv_iinc (v := nI (i + 1)) (lv' := [(4, .int (nI (i + 1))), (3, .int ((100 + q / 100) - (100 + (ct (70 * i + 0)) / 100))), (5, .int (ct (70 * i + 0))), (0, .ref (g 1)), (1, .int (nI pn)), (2, .int q)]) hx hb dX1_yearsSince_70 hl (k := 5) rfl (nI_1 i) (by decide) rfl (fun ls hl => ?_)
            refine lv_goto (tgt := 7) hx hb dX1_yearsSince_73 (by decide) ?_
            exact ih_1 (i + 1) ((100 + q / 100) - (100 + (ct (70 * i + 0)) / 100)) _ (hi9) (by rw [sinV_y (T := (fun t c => ct (70 * t + c))) (J := sw) ⟨Int32.not_le.mp c_40, by rw [← hbt_bt (by omega)]; exact c_56⟩]) (by omega) (lv_sub hl [3, 4, 5, 1, 0] rfl)
  exact key1 (nt + 1) 0 999 _ (Nat.zero_le _) (rfl) (by omega) (lv_sub hl [2, 3, 4, 1, 0] rfl)
set_option maxHeartbeats 4000000 in
set_option maxRecDepth 100000 in
theorem u_letterE (l : Launch) (G : gW) (g : Nat → Nat) (hg : gOK g) (f : Nat → va_E) (se : Nat) (hf : Nat → Option Nat) (pay : Int32) (fine : Int32) (nt : Nat) (ct : Nat → Int32) (np : Nat) (dp : Nat → Int32) (sw : Nat → Int32) (pn : Nat) (n : Int32) (q : Int32) (hctc : f 1 = eO 1 [.ref (g 36), .ref (g 12), .ref (g 13), .ref (g 15), .int (nI se)]) (hhs : f 12 = eA G 4 10 hf) (hbk : f 36 = eO 0 [.ref (g 37), .ref (g 39), .ref (g 41), .ref (g 43), .ref (g 45), .ref (g 47), .ref (g 112), .int pay, .int fine]) (htr : f 45 = eO 5 [.int (nI 10), .int (nI 70), .ref (g 46), .int (nI nt)]) (hct : f 46 = eI G (10 * 70) ct) (hpr : f 37 = eO 5 [.int (nI 30), .int (nI 4), .ref (g 38), .int (nI np)]) (hpd : f 38 = eI G (30 * 4) dp) (hse : se ≤ 10) (hhf : ∀ i, i < 10 → hf i = some (g (2 * i + 16))) (hnt : nt ≤ 10) (hnp : np ≤ 30) (hZ : ∀ i, i < 10 → okZ G g f (2 * i + 16) (sw i)) (hpn : pn < np) : Met l yX1_letter (wsT yX1_letter cX1_letter 4 (some .long)) ({ frames := 2, cells := 0, slots := 0, locals := 48 }) (bP G g f [.ref (g 1), .int n, .int (nI pn), .int q]) (rQl (fun z9 => z9 = lts (fun i c => dp (4 * i + c)) (satN (fun t c => ct (70 * t + c)) sw q pn nt) (sinV (fun t c => ct (70 * t + c)) sw q pn nt) pn q n)) 0 0 fr0 := by
  refine Met.ofW (cc := cX1_letter) (maxL := 4) (ret := (some .long)) (by decide) rfl ?_
  intro p e s m args below meth c s₁ B hml hv
  obtain ⟨rfl, hP, hG⟩ := hv
  have hx := B.exec
  have hb := B.bytes
  have hr := B.returns
  have hts := my_hts (atoms_spec (ws := wsT yX1_letter cX1_letter 4 (some .long)) B.pre)
  have hown : s.vm.findClass RX1 = some m.cls := findClass_of_methodNamed B.named
  have hlocks := B.notSynchronized
  have hl := lv_entry ([.ref (g 1), .int n, .int (nI pn), .int q]) (n := 4) (Nat.le_of_ble_eq_true rfl)
  rw [lg_entry_eq]
  generalize (lg_sl ([.ref (g 1), .int n, .int (nI pn), .int q]) ++ List.replicate (4 - (lg_sl ([.ref (g 1), .int n, .int (nI pn), .int q])).length) Slot.unset).toArray = ls at hl ⊢
  have hl : lv_has ls 4 [(0, .ref (g 1)), (1, .int n), (2, .int (nI pn)), (3, .int q)] := hl
  refine W_q8 (fun Q9 hQ9 => ?_)
  refine lv_iload_n hx hb dX1_letter_0 rfl (lv_at hl 1 rfl) ?_
  by_cases e_97 : n = 97
  · refine my_bei e_97 ?_
    refine lv_lookup (off := 51) (tgt := 52) hx hb dX1_letter_1 (by decide) (by decide) (by decide) ?_
    refine lv_iload_n hx hb dX1_letter_52 rfl (lv_at hl 3 rfl) ?_
    refine rd_calli (va_runSN (As := [.int q]) (rest := []) ⟨hx, hb, hml, hown, hts⟩ (s_yearOf l G g hg f q  ) (⟨my_cn hts ok_X10_yearOf.1 (hG.2.1 (.methodLinkNest RX1 145 yX10_yearOf RX10) (List.mem_of_getElem? (i := 32) rfl)) rfl rfl ⟨Nat.le_of_ble_eq_true rfl, Nat.le_of_ble_eq_true rfl⟩, hts _ ok_X10_yearOf.2.2.1, trivial⟩) ⟨bP.blind, fun U hU hW => ⟨rfl, by rw [hU]; exact hP, kG.warm hW hG⟩⟩ rfl rfl hl.1 rfl (lv_room (Nat.le_of_ble_eq_true rfl)) dX1_letter_53 ⟨Nat.le_of_ble_eq_true rfl, Nat.le_of_ble_eq_true rfl⟩) (fun r hr9 => ?_)
    subst hr9
    refine lv_aload_n hx hb dX1_letter_56 rfl (lv_at hl 0 rfl) ?_
    refine va_get (D := G.1) (ci := 1) (v := .ref (g 36)) (C := RX1) (T := TX1) (N := 5) hx hb hts inlX1 hown hG.1 hP 1 (wl_at (by decide) hctc) rfl 0 (by decide) (hts (.fieldLink RX1 12 "SwornLists$Court" "book" "LSwornLists$Book;") w_40) (fun _ h9 => h9) rfl dX1_letter_57 ?_
    refine va_getN (D := G.1) (ci := 0) (v := .ref (g 37)) (C := RX0) (T := TX0) (N := 9) (host := RX10) hx hb hts inlX0 hown hG.1 hP 36 (wl_at (by decide) hbk) rfl 0 (by decide) (va_Nw.use rfl (hG.2.1 (.fieldLinkNest RX1 110 RX0 "people" "LSwornLists$Rows;" RX10) (List.mem_of_getElem? (i := 1) rfl))) (fun _ h9 => h9) rfl dX1_letter_60 ?_
    refine lv_iload_n hx hb dX1_letter_63 rfl (lv_at hl 2 rfl) ?_
    refine lv_iconst (v := 3) hx hb dX1_letter_64 (by decide) ?_
    refine rd_calli (va_runV (As := [.int (nI pn), .int 3]) (rest := [.int (100 + q / 100)]) ⟨hx, hb, hml, hown, hts⟩ (r_at l G g hg f 37 30 4 np dp (nI pn) 3 hpr hpd (by first | assumption | omega | decide) (by first | assumption | omega | decide) (by first | assumption | omega | decide) (by first | assumption | omega | decide)) (my_cwV hts ok_X5_at w_389 rfl rfl ⟨Nat.le_of_ble_eq_true rfl, Nat.le_of_ble_eq_true rfl⟩) ⟨bP.blind, va_recv hG.1 hP (ci := 5) (q0 := 37) rfl (wl_at (by decide) hpr), fun U hU hW => ⟨rfl, by rw [hU]; exact hP, kG.warm hW hG⟩⟩ rfl rfl hl.1 rfl (lv_room (Nat.le_of_ble_eq_true rfl)) dX1_letter_65 ⟨Nat.le_of_ble_eq_true rfl, Nat.le_of_ble_eq_true rfl⟩) (fun r hr9 => ?_)
    subst hr9
    refine my_bei (v := dp (4 * pn + 3)) (atQ (d := dp) (w := 4) (i := pn) (c := 3) hpn (by omega) (by omega) (by omega)) ?_
    refine lv_isub hx hb dX1_letter_68 ?_
    refine lv_i2l hx hb dX1_letter_69 rfl ?_
    refine W_q9 hQ9 ?_
    exact W.lret (v := Int32.toInt64 ((100 + q / 100) - (dp (4 * pn + 3)))) hx hb hr (fun _ hT9 _ => ⟨_, rfl, (by unfold lts; rw [if_pos e_97]), hT9⟩) (fun _ h => absurd h List.not_mem_nil) dX1_letter_70
  by_cases e_108 : n = 108
  · refine my_bei e_108 ?_
    refine lv_lookup (off := 70) (tgt := 71) hx hb dX1_letter_1 (by decide) (by decide) (by decide) ?_
    refine lv_aload_n hx hb dX1_letter_71 rfl (lv_at hl 0 rfl) ?_
    refine va_get (D := G.1) (ci := 1) (v := .ref (g 36)) (C := RX1) (T := TX1) (N := 5) hx hb hts inlX1 hown hG.1 hP 1 (wl_at (by decide) hctc) rfl 0 (by decide) (hts (.fieldLink RX1 12 "SwornLists$Court" "book" "LSwornLists$Book;") w_40) (fun _ h9 => h9) rfl dX1_letter_72 ?_
    refine va_getN (D := G.1) (ci := 0) (v := .ref (g 37)) (C := RX0) (T := TX0) (N := 9) (host := RX10) hx hb hts inlX0 hown hG.1 hP 36 (wl_at (by decide) hbk) rfl 0 (by decide) (va_Nw.use rfl (hG.2.1 (.fieldLinkNest RX1 110 RX0 "people" "LSwornLists$Rows;" RX10) (List.mem_of_getElem? (i := 1) rfl))) (fun _ h9 => h9) rfl dX1_letter_75 ?_
    refine lv_iload_n hx hb dX1_letter_78 rfl (lv_at hl 2 rfl) ?_
    refine lv_iconst (v := 2) hx hb dX1_letter_79 (by decide) ?_
    refine rd_calli (va_runV (As := [.int (nI pn), .int 2]) (rest := []) ⟨hx, hb, hml, hown, hts⟩ (r_at l G g hg f 37 30 4 np dp (nI pn) 2 hpr hpd (by first | assumption | omega | decide) (by first | assumption | omega | decide) (by first | assumption | omega | decide) (by first | assumption | omega | decide)) (my_cwV hts ok_X5_at w_389 rfl rfl ⟨Nat.le_of_ble_eq_true rfl, Nat.le_of_ble_eq_true rfl⟩) ⟨bP.blind, va_recv hG.1 hP (ci := 5) (q0 := 37) rfl (wl_at (by decide) hpr), fun U hU hW => ⟨rfl, by rw [hU]; exact hP, kG.warm hW hG⟩⟩ rfl rfl hl.1 rfl (lv_room (Nat.le_of_ble_eq_true rfl)) dX1_letter_80 ⟨Nat.le_of_ble_eq_true rfl, Nat.le_of_ble_eq_true rfl⟩) (fun r hr9 => ?_)
    subst hr9
    refine my_bei (v := dp (4 * pn + 2)) (atQ (d := dp) (w := 4) (i := pn) (c := 2) hpn (by omega) (by omega) (by omega)) ?_
    refine lv_i2l hx hb dX1_letter_83 rfl ?_
    refine W_q9 hQ9 ?_
    exact W.lret (v := Int32.toInt64 (dp (4 * pn + 2))) hx hb hr (fun _ hT9 _ => ⟨_, rfl, (by unfold lts; rw [if_neg e_97, if_pos e_108]), hT9⟩) (fun _ h => absurd h List.not_mem_nil) dX1_letter_84
  by_cases e_112 : n = 112
  · refine my_bei e_112 ?_
    refine lv_lookup (off := 98) (tgt := 99) hx hb dX1_letter_1 (by decide) (by decide) (by decide) ?_
    refine lv_aload_n hx hb dX1_letter_99 rfl (lv_at hl 0 rfl) ?_
    refine va_get (D := G.1) (ci := 1) (v := .ref (g 36)) (C := RX1) (T := TX1) (N := 5) hx hb hts inlX1 hown hG.1 hP 1 (wl_at (by decide) hctc) rfl 0 (by decide) (hts (.fieldLink RX1 12 "SwornLists$Court" "book" "LSwornLists$Book;") w_40) (fun _ h9 => h9) rfl dX1_letter_100 ?_
    refine va_getN (D := G.1) (ci := 0) (v := .ref (g 37)) (C := RX0) (T := TX0) (N := 9) (host := RX10) hx hb hts inlX0 hown hG.1 hP 36 (wl_at (by decide) hbk) rfl 0 (by decide) (va_Nw.use rfl (hG.2.1 (.fieldLinkNest RX1 110 RX0 "people" "LSwornLists$Rows;" RX10) (List.mem_of_getElem? (i := 1) rfl))) (fun _ h9 => h9) rfl dX1_letter_103 ?_
    refine lv_iload_n hx hb dX1_letter_106 rfl (lv_at hl 2 rfl) ?_
    refine lv_iconst (v := 0) hx hb dX1_letter_107 (by decide) ?_
    refine rd_calli (va_runV (As := [.int (nI pn), .int 0]) (rest := []) ⟨hx, hb, hml, hown, hts⟩ (r_at l G g hg f 37 30 4 np dp (nI pn) 0 hpr hpd (by first | assumption | omega | decide) (by first | assumption | omega | decide) (by first | assumption | omega | decide) (by first | assumption | omega | decide)) (my_cwV hts ok_X5_at w_389 rfl rfl ⟨Nat.le_of_ble_eq_true rfl, Nat.le_of_ble_eq_true rfl⟩) ⟨bP.blind, va_recv hG.1 hP (ci := 5) (q0 := 37) rfl (wl_at (by decide) hpr), fun U hU hW => ⟨rfl, by rw [hU]; exact hP, kG.warm hW hG⟩⟩ rfl rfl hl.1 rfl (lv_room (Nat.le_of_ble_eq_true rfl)) dX1_letter_108 ⟨Nat.le_of_ble_eq_true rfl, Nat.le_of_ble_eq_true rfl⟩) (fun r hr9 => ?_)
    subst hr9
    refine my_bei (v := dp (4 * pn + 0)) (atQ (d := dp) (w := 4) (i := pn) (c := 0) hpn (by omega) (by omega) (by omega)) ?_
    refine lv_i2l hx hb dX1_letter_111 rfl ?_
    refine W_q9 hQ9 ?_
    exact W.lret (v := Int32.toInt64 (dp (4 * pn + 0))) hx hb hr (fun _ hT9 _ => ⟨_, rfl, (by unfold lts; rw [if_neg e_97, if_neg e_108, if_pos e_112]), hT9⟩) (fun _ h => absurd h List.not_mem_nil) dX1_letter_112
  by_cases e_115 : n = 115
  · refine my_bei e_115 ?_
    refine lv_lookup (off := 112) (tgt := 113) hx hb dX1_letter_1 (by decide) (by decide) (by decide) ?_
    refine lv_aload_n hx hb dX1_letter_113 rfl (lv_at hl 0 rfl) ?_
    refine lv_iload_n hx hb dX1_letter_114 rfl (lv_at hl 2 rfl) ?_
    refine lv_iload_n hx hb dX1_letter_115 rfl (lv_at hl 3 rfl) ?_
    refine rd_calli (va_runV (As := [.int (nI pn), .int q]) (rest := []) ⟨hx, hb, hml, hown, hts⟩ (u_timesSatE l G g hg f se hf pay fine nt ct sw pn q hctc hhs hbk htr hct (by first | assumption | omega | decide) (by first | assumption | omega | decide) (by first | assumption | omega | decide) (by first | assumption | omega | decide) (by first | assumption | omega | decide)) (my_cwV hts ok_X1_timesSat w_447 rfl rfl ⟨Nat.le_of_ble_eq_true rfl, Nat.le_of_ble_eq_true rfl⟩) ⟨bP.blind, va_recv hG.1 hP (ci := 1) (q0 := 1) rfl (wl_at (by decide) hctc), fun U hU hW => ⟨rfl, by rw [hU]; exact hP, kG.warm hW hG⟩⟩ rfl rfl hl.1 rfl (lv_room (Nat.le_of_ble_eq_true rfl)) dX1_letter_116 ⟨Nat.le_of_ble_eq_true rfl, Nat.le_of_ble_eq_true rfl⟩) (fun r hr9 => ?_)
    subst hr9
    refine lv_i2l hx hb dX1_letter_119 rfl ?_
    refine W_q9 hQ9 ?_
    exact W.lret (v := Int32.toInt64 (nI (satN (fun t c => ct (70 * t + c)) sw q pn nt))) hx hb hr (fun _ hT9 _ => ⟨_, rfl, (by unfold lts; rw [if_neg e_97, if_neg e_108, if_neg e_112, if_pos e_115]), hT9⟩) (fun _ h => absurd h List.not_mem_nil) dX1_letter_120
  by_cases e_116 : n = 116
  · refine my_bei e_116 ?_
    refine lv_lookup (off := 84) (tgt := 85) hx hb dX1_letter_1 (by decide) (by decide) (by decide) ?_
    refine lv_aload_n hx hb dX1_letter_85 rfl (lv_at hl 0 rfl) ?_
    refine va_get (D := G.1) (ci := 1) (v := .ref (g 36)) (C := RX1) (T := TX1) (N := 5) hx hb hts inlX1 hown hG.1 hP 1 (wl_at (by decide) hctc) rfl 0 (by decide) (hts (.fieldLink RX1 12 "SwornLists$Court" "book" "LSwornLists$Book;") w_40) (fun _ h9 => h9) rfl dX1_letter_86 ?_
    refine va_getN (D := G.1) (ci := 0) (v := .ref (g 37)) (C := RX0) (T := TX0) (N := 9) (host := RX10) hx hb hts inlX0 hown hG.1 hP 36 (wl_at (by decide) hbk) rfl 0 (by decide) (va_Nw.use rfl (hG.2.1 (.fieldLinkNest RX1 110 RX0 "people" "LSwornLists$Rows;" RX10) (List.mem_of_getElem? (i := 1) rfl))) (fun _ h9 => h9) rfl dX1_letter_89 ?_
    refine lv_iload_n hx hb dX1_letter_92 rfl (lv_at hl 2 rfl) ?_
    refine lv_iconst (v := 1) hx hb dX1_letter_93 (by decide) ?_
    refine rd_calli (va_runV (As := [.int (nI pn), .int 1]) (rest := []) ⟨hx, hb, hml, hown, hts⟩ (r_at l G g hg f 37 30 4 np dp (nI pn) 1 hpr hpd (by first | assumption | omega | decide) (by first | assumption | omega | decide) (by first | assumption | omega | decide) (by first | assumption | omega | decide)) (my_cwV hts ok_X5_at w_389 rfl rfl ⟨Nat.le_of_ble_eq_true rfl, Nat.le_of_ble_eq_true rfl⟩) ⟨bP.blind, va_recv hG.1 hP (ci := 5) (q0 := 37) rfl (wl_at (by decide) hpr), fun U hU hW => ⟨rfl, by rw [hU]; exact hP, kG.warm hW hG⟩⟩ rfl rfl hl.1 rfl (lv_room (Nat.le_of_ble_eq_true rfl)) dX1_letter_94 ⟨Nat.le_of_ble_eq_true rfl, Nat.le_of_ble_eq_true rfl⟩) (fun r hr9 => ?_)
    subst hr9
    refine my_bei (v := dp (4 * pn + 1)) (atQ (d := dp) (w := 4) (i := pn) (c := 1) hpn (by omega) (by omega) (by omega)) ?_
    refine lv_i2l hx hb dX1_letter_97 rfl ?_
    refine W_q9 hQ9 ?_
    exact W.lret (v := Int32.toInt64 (dp (4 * pn + 1))) hx hb hr (fun _ hT9 _ => ⟨_, rfl, (by unfold lts; rw [if_neg e_97, if_neg e_108, if_neg e_112, if_neg e_115, if_pos e_116]), hT9⟩) (fun _ h => absurd h List.not_mem_nil) dX1_letter_98
  refine lv_lookup (off := 120) (tgt := 121) hx hb dX1_letter_1 (by decide) (by show Op.lookupswitch.offset [(97, 51), (108, 70), (112, 98), (115, 112), (116, 84)] 120 _ = 120; rw [lv_osw (a := 97) e_97 (by decide), lv_osw (a := 108) e_108 (by decide), lv_osw (a := 112) e_112 (by decide), lv_osw (a := 115) e_115 (by decide), lv_osw (a := 116) e_116 (by decide)]; rfl) (by decide) ?_
  refine lv_aload_n hx hb dX1_letter_121 rfl (lv_at hl 0 rfl) ?_
  refine lv_iload_n hx hb dX1_letter_122 rfl (lv_at hl 2 rfl) ?_
  refine lv_iload_n hx hb dX1_letter_123 rfl (lv_at hl 3 rfl) ?_
  refine rd_calli (va_runV (As := [.int (nI pn), .int q]) (rest := []) ⟨hx, hb, hml, hown, hts⟩ (u_yearsSinceE l G g hg f se hf pay fine nt ct sw pn q hctc hhs hbk htr hct (by first | assumption | omega | decide) (by first | assumption | omega | decide) (by first | assumption | omega | decide) (by first | assumption | omega | decide) (by first | assumption | omega | decide)) (my_cwV hts ok_X1_yearsSince w_451 rfl rfl ⟨Nat.le_of_ble_eq_true rfl, Nat.le_of_ble_eq_true rfl⟩) ⟨bP.blind, va_recv hG.1 hP (ci := 1) (q0 := 1) rfl (wl_at (by decide) hctc), fun U hU hW => ⟨rfl, by rw [hU]; exact hP, kG.warm hW hG⟩⟩ rfl rfl hl.1 rfl (lv_room (Nat.le_of_ble_eq_true rfl)) dX1_letter_124 ⟨Nat.le_of_ble_eq_true rfl, Nat.le_of_ble_eq_true rfl⟩) (fun r hr9 => ?_)
  subst hr9
  refine lv_i2l hx hb dX1_letter_127 rfl ?_
  refine W_q9 hQ9 ?_
  exact W.lret (v := Int32.toInt64 (sinV (fun t c => ct (70 * t + c)) sw q pn nt)) hx hb hr (fun _ hT9 _ => ⟨_, rfl, (by unfold lts; rw [if_neg e_97, if_neg e_108, if_neg e_112, if_neg e_115, if_neg e_116]), hT9⟩) (fun _ h => absurd h List.not_mem_nil) dX1_letter_128

