def st0 : Nat → Int32 := upd (upd (fun _ => 0) 5 5) 6 20
theorem i64_lt {a b : Int32} : a.toInt64 < b.toInt64 ↔ a < b := by
  rw [Int64.lt_iff_toInt_lt, Int32.lt_iff_toInt_lt, Int32.toInt_toInt64, Int32.toInt_toInt64]
theorem b2_iff {P Q : Prop} [Decidable P] [Decidable Q] (h : P ↔ Q) : b2 P = b2 Q := by
  by_cases q : P
  · rw [b2_t q, b2_t (h.mp q)]
  · rw [b2_f q, b2_f (fun z => q (h.mpr z))]
theorem inB_e {n : Int32} : ¬ inB 0 n (-1) = true := fun q => by
  have h1 : (0 : Int) ≤ n.toInt := Int32.le_iff_toInt_le.mp (of_decide_eq_true q).1
  have h2 : n.toInt ≤ -1 := Int32.le_iff_toInt_le.mp (of_decide_eq_true q).2
  omega
theorem in3 {n : Int32} (q : inB 0 n 3 = true) : n = 0 ∨ n = 1 ∨ n = 2 ∨ n = 3 := by
  have h1 : (0 : Int) ≤ n.toInt := Int32.le_iff_toInt_le.mp (of_decide_eq_true q).1
  have h2 : n.toInt ≤ 3 := Int32.le_iff_toInt_le.mp (of_decide_eq_true q).2
  rcases (show n.toInt = 0 ∨ n.toInt = 1 ∨ n.toInt = 2 ∨ n.toInt = 3 by omega) with h | h | h | h
  · exact Or.inl (Int32.toInt_inj.mp h)
  · exact Or.inr (Or.inl (Int32.toInt_inj.mp h))
  · exact Or.inr (Or.inr (Or.inl (Int32.toInt_inj.mp h)))
  · exact Or.inr (Or.inr (Or.inr (Int32.toInt_inj.mp h)))
theorem in5 {n : Int32} (q : inB 0 n 5 = true) : n = 0 ∨ n = 1 ∨ n = 2 ∨ n = 3 ∨ n = 4 ∨ n = 5 := by
  have h1 : (0 : Int) ≤ n.toInt := Int32.le_iff_toInt_le.mp (of_decide_eq_true q).1
  have h2 : n.toInt ≤ 5 := Int32.le_iff_toInt_le.mp (of_decide_eq_true q).2
  rcases (show n.toInt = 0 ∨ n.toInt = 1 ∨ n.toInt = 2 ∨ n.toInt = 3 ∨ n.toInt = 4 ∨ n.toInt = 5 by omega) with h | h | h | h | h | h
  · exact Or.inl (Int32.toInt_inj.mp h)
  · exact Or.inr (Or.inl (Int32.toInt_inj.mp h))
  · exact Or.inr (Or.inr (Or.inl (Int32.toInt_inj.mp h)))
  · exact Or.inr (Or.inr (Or.inr (Or.inl (Int32.toInt_inj.mp h))))
  · exact Or.inr (Or.inr (Or.inr (Or.inr (Or.inl (Int32.toInt_inj.mp h)))))
  · exact Or.inr (Or.inr (Or.inr (Or.inr (Or.inr (Int32.toInt_inj.mp h)))))
theorem rng {i n : Nat} (a N : Nat) (h : i < n) (hn : a + n ≤ N) (hN : N < 2 ^ 31) : vp_in (nI (a + i)) N := vp_in_nI (by omega) hN
theorem ok_X11_in : okS yX11_in cX11_in 6 (some .boolean) 3 := ⟨⟨w_164, w_5, ⟨by decide +kernel, by decide +kernel, by decide +kernel⟩⟩, trivial, w_163, trivial⟩
theorem ok_X11_is : okV yX11_is cX11_is 3 (some .boolean) 2 := ⟨⟨w_189, w_5, ⟨by decide +kernel, by decide +kernel, by decide +kernel⟩⟩, trivial, w_187, w_188⟩
theorem ok_X11_one : okV yX11_one cX11_one 2 (some .int) 1 := ⟨⟨w_168, w_5, ⟨by decide +kernel, by decide +kernel, by decide +kernel⟩⟩, trivial, w_166, w_167⟩
theorem ok_X11_people : okV yX11_people cX11_people 1 (some .int) 0 := ⟨⟨w_216, w_5, ⟨by decide +kernel, by decide +kernel, by decide +kernel⟩⟩, trivial, w_214, w_215⟩
theorem ok_X11_sizeOf : okS yX11_sizeOf cX11_sizeOf 3 (some .int) 1 := ⟨⟨w_586, w_5, ⟨by decide +kernel, by decide +kernel, by decide +kernel⟩⟩, trivial, w_585, trivial⟩
theorem ok_X11_isDay : okS yX11_isDay cX11_isDay 1 (some .boolean) 1 := ⟨⟨w_192, w_5, ⟨by decide +kernel, by decide +kernel, by decide +kernel⟩⟩, trivial, w_191, trivial⟩
theorem ok_X11_isText : okS yX11_isText cX11_isText 1 (some .boolean) 1 := ⟨⟨w_261, w_5, ⟨by decide +kernel, by decide +kernel, by decide +kernel⟩⟩, trivial, w_260, trivial⟩
theorem ok_X11_theRoll : okV yX11_theRoll cX11_theRoll 5 (some .int) 1 := ⟨⟨w_237, w_5, ⟨by decide +kernel, by decide +kernel, by decide +kernel⟩⟩, trivial, w_235, w_236⟩
theorem ok_X11_settles : okV yX11_settles cX11_settles 2 none 1 := ⟨⟨w_356, w_5, ⟨by decide +kernel, by decide +kernel, by decide +kernel⟩⟩, trivial, w_354, w_355⟩
theorem ok_X11_reads : okV yX11_reads cX11_reads 9 (some .int) 1 := ⟨⟨w_348, w_5, ⟨by decide +kernel, by decide +kernel, by decide +kernel⟩⟩, trivial, w_346, w_347⟩
theorem ok_X11_inForce : okV yX11_inForce cX11_inForce 7 (some .int) 2 := ⟨⟨w_543, w_5, ⟨by decide +kernel, by decide +kernel, by decide +kernel⟩⟩, trivial, w_541, w_542⟩
theorem ok_X11_whom : okV yX11_whom cX11_whom 8 (some .int) 3 := ⟨⟨w_539, w_5, ⟨by decide +kernel, by decide +kernel, by decide +kernel⟩⟩, trivial, w_537, w_538⟩
theorem ok_X11_finds : okV yX11_finds cX11_finds 2 none 0 := ⟨⟨w_526, w_5, ⟨by decide +kernel, by decide +kernel, by decide +kernel⟩⟩, trivial, w_524, w_525⟩
theorem ok_X11_isTrial : okV yX11_isTrial cX11_isTrial 2 (some .boolean) 1 := ⟨⟨w_683, w_5, ⟨by decide +kernel, by decide +kernel, by decide +kernel⟩⟩, trivial, w_681, w_682⟩
theorem ok_X11_countOf : okV yX11_countOf cX11_countOf 4 (some .int) 1 := ⟨⟨w_942, w_5, ⟨by decide +kernel, by decide +kernel, by decide +kernel⟩⟩, trivial, w_940, w_941⟩
theorem ok_X11_mixed : okV yX11_mixed cX11_mixed 8 (some .long) 3 := ⟨⟨w_980, w_5, ⟨by decide +kernel, by decide +kernel, by decide +kernel⟩⟩, trivial, w_978, w_979⟩
theorem ok_X11_areApart : okV yX11_areApart cX11_areApart 7 (some .boolean) 1 := ⟨⟨w_866, w_5, ⟨by decide +kernel, by decide +kernel, by decide +kernel⟩⟩, trivial, w_864, w_865⟩
set_option maxHeartbeats 4000000 in
set_option maxRecDepth 100000 in
theorem c_in (l : Launch) (G : gW) (n : Int32) (a : Int32) (b : Int32)  : Met l yX11_in (wsT yX11_in cX11_in 6 (some .boolean)) ({ frames := 0, cells := 0, slots := 0, locals := 0 }) (rP G [.long (Int32.toInt64 n), .long (Int32.toInt64 a), .long (Int32.toInt64 b)] []) (rQi (fun r => r = b2 (inB a n b = true))) 0 0 fr0 := by
  refine Met.ofW (cc := cX11_in) (maxL := 6) (ret := (some .boolean)) (by decide) rfl ?_
  intro p e s m args below meth c s₁ B hml hv
  obtain ⟨rfl, hP, hG⟩ := hv
  have hx := B.exec
  have hb := B.bytes
  have hr := B.returns
  have hts := my_hts (atoms_spec (ws := wsT yX11_in cX11_in 6 (some .boolean)) B.pre)
  have hown : s.vm.findClass RX11 = some m.cls := findClass_of_methodNamed B.named
  have hlocks := B.notSynchronized
  have hP : va_P G.1 vwCl [] s.heap := hP
  have hl := lv_entry ([.long (Int32.toInt64 n), .long (Int32.toInt64 a), .long (Int32.toInt64 b)]) (n := 6) (Nat.le_of_ble_eq_true rfl)
  rw [lg_entry_eq]
  generalize (lg_sl ([.long (Int32.toInt64 n), .long (Int32.toInt64 a), .long (Int32.toInt64 b)]) ++ List.replicate (6 - (lg_sl ([.long (Int32.toInt64 n), .long (Int32.toInt64 a), .long (Int32.toInt64 b)])).length) Slot.unset).toArray = ls at hl ⊢
  have hl : lv_has ls 6 [(0, .long (Int32.toInt64 n)), (2, .long (Int32.toInt64 a)), (4, .long (Int32.toInt64 b))] := hl
  refine lv_lload_n hx hb dX11_in_0 rfl (lv_at hl 0 rfl) ?_
  refine lv_lload_n hx hb dX11_in_1 rfl (lv_at hl 1 rfl) ?_
  refine W.lcmp hx hb dX11_in_2 ?_
  refine lv_if_lt (tgt := 17) hx hb dX11_in_3 (by decide) (fun c_3 => ?_) (fun c_3 => ?_)
  · refine lv_iconst (v := 0) hx hb dX11_in_17 (by decide) ?_
    exact W.zret (v := 0) hx hb hr (rfl) (fun t ht hW => ⟨_, rfl, (by first | exact (b2_t (inB_t (fun z => absurd ((lg_cmp_lt _ _).mpr (i64_lt.mpr z)) (by assumption)) (fun z => absurd ((lg_cmp_gt _ _).mpr (i64_lt.mpr z)) (by assumption)))).symm | exact (b2_f (inB_lo (i64_lt.mp ((lg_cmp_lt _ _).mp (by assumption))))).symm | exact (b2_f (inB_hi (i64_lt.mp ((lg_cmp_gt _ _).mp (by assumption))))).symm), ht⟩) (fun _ h => absurd h List.not_mem_nil) dX11_in_18
  · refine lv_lload_n hx hb dX11_in_6 rfl (lv_at hl 0 rfl) ?_
    refine lv_lload hx hb dX11_in_7 (lv_at hl 2 rfl) ?_
    refine W.lcmp hx hb dX11_in_9 ?_
    refine lv_if_gt (tgt := 17) hx hb dX11_in_10 (by decide) (fun c_10 => ?_) (fun c_10 => ?_)
    · refine lv_iconst (v := 0) hx hb dX11_in_17 (by decide) ?_
      exact W.zret (v := 0) hx hb hr (rfl) (fun t ht hW => ⟨_, rfl, (by first | exact (b2_t (inB_t (fun z => absurd ((lg_cmp_lt _ _).mpr (i64_lt.mpr z)) (by assumption)) (fun z => absurd ((lg_cmp_gt _ _).mpr (i64_lt.mpr z)) (by assumption)))).symm | exact (b2_f (inB_lo (i64_lt.mp ((lg_cmp_lt _ _).mp (by assumption))))).symm | exact (b2_f (inB_hi (i64_lt.mp ((lg_cmp_gt _ _).mp (by assumption))))).symm), ht⟩) (fun _ h => absurd h List.not_mem_nil) dX11_in_18
    · refine lv_iconst (v := 1) hx hb dX11_in_13 (by decide) ?_
      refine lv_goto (tgt := 18) hx hb dX11_in_14 (by decide) ?_
      exact W.zret (v := 1) hx hb hr (rfl) (fun t ht hW => ⟨_, rfl, (by first | exact (b2_t (inB_t (fun z => absurd ((lg_cmp_lt _ _).mpr (i64_lt.mpr z)) (by assumption)) (fun z => absurd ((lg_cmp_gt _ _).mpr (i64_lt.mpr z)) (by assumption)))).symm | exact (b2_f (inB_lo (i64_lt.mp ((lg_cmp_lt _ _).mp (by assumption))))).symm | exact (b2_f (inB_hi (i64_lt.mp ((lg_cmp_gt _ _).mp (by assumption))))).symm), ht⟩) (fun _ h => absurd h List.not_mem_nil) dX11_in_18
set_option maxHeartbeats 4000000 in
set_option maxRecDepth 100000 in
theorem c_is0 (l : Launch) (G : gW) (mo : Nat) (st : Nat) (mi : Nat) (mk : Nat) (m6 : Nat) (m7 : Nat) (m9 : Nat) (m10 : Nat) (m15 : Nat) (m16 : Nat) (m17 : Nat) (m18 : Nat) (m19 : Nat) (m20 : Nat) (m21 : Nat) (m22 : Nat) (m23 : Nat) (m24 : Nat) (n : Int32) (i : Int32) (j3 : Int64) (j4 : Int64) (i5 : Int32) (i8 : Int32) (i11 : Int32) (i12 : Int32) (i13 : Int32) (i14 : Int32) (hi : vp_in n 2246) (hz : st0 (Int32.toNatClampNeg n) = 0) : Met l yX11_is (wsT yX11_is cX11_is 3 (some .boolean)) ({ frames := 1, cells := 0, slots := 0, locals := 25 }) (rP G [.ref mo, .int n, .int i] [(mo, eO 10 [.ref st, .ref mi, .ref mk, .long j3, .long j4, .int i5, .ref m6, .ref m7, .int i8, .ref m9, .ref m10, .int i11, .int i12, .int i13, .int i14, .ref m15, .ref m16, .ref m17, .ref m18, .ref m19, .ref m20, .ref m21, .ref m22, .ref m23, .ref m24]), (st, eI G 2246 st0)]) (rQi (fun r => r = 0)) 0 0 fr0 := by
  refine Met.ofW (cc := cX11_is) (maxL := 3) (ret := (some .boolean)) (by decide) rfl ?_
  intro p e s m args below meth c s₁ B hml hv
  obtain ⟨rfl, hP, hG⟩ := hv
  have hx := B.exec
  have hb := B.bytes
  have hr := B.returns
  have hts := my_hts (atoms_spec (ws := wsT yX11_is cX11_is 3 (some .boolean)) B.pre)
  have hown : s.vm.findClass RX11 = some m.cls := findClass_of_methodNamed B.named
  have hlocks := B.notSynchronized
  have hP : va_P G.1 vwCl [(mo, eO 10 [.ref st, .ref mi, .ref mk, .long j3, .long j4, .int i5, .ref m6, .ref m7, .int i8, .ref m9, .ref m10, .int i11, .int i12, .int i13, .int i14, .ref m15, .ref m16, .ref m17, .ref m18, .ref m19, .ref m20, .ref m21, .ref m22, .ref m23, .ref m24]), (st, eI G 2246 st0)] s.heap := hP
  have hl := lv_entry ([.ref mo, .int n, .int i]) (n := 3) (Nat.le_of_ble_eq_true rfl)
  rw [lg_entry_eq]
  generalize (lg_sl ([.ref mo, .int n, .int i]) ++ List.replicate (3 - (lg_sl ([.ref mo, .int n, .int i])).length) Slot.unset).toArray = ls at hl ⊢
  have hl : lv_has ls 3 [(0, .ref mo), (1, .int n), (2, .int i)] := hl
  refine lv_iload_n hx hb dX11_is_0 rfl (lv_at hl 2 rfl) ?_
  refine lv_i2l hx hb dX11_is_1 rfl ?_
  refine lv_lconst (v := 0) hx hb dX11_is_2 (by decide) ?_
  refine my_bel (v := Int32.toInt64 0) (by decide) ?_
  refine lv_aload_n hx hb dX11_is_3 rfl (lv_at hl 0 rfl) ?_
  refine va_get (D := G.1) (ci := 10) (v := .ref st) (C := RX11) (T := TX11) (N := 25) hx hb hts inlX11 hown hG.1 hP 0 rfl rfl 0 (by decide) (hts (.fieldLink RX11 7 "SwornListsModel" "st" "[I") w_112) (fun _ h9 => h9) rfl dX11_is_4 ?_
  refine lv_iload_n hx hb dX11_is_7 rfl (lv_at hl 1 rfl) ?_
  refine va_iald hx hb hG.1 hP 1 0 rfl rfl (hi) dX11_is_8 ?_
  refine my_bei (v := 0) (hz) ?_
  refine lv_iconst (v := 1) hx hb dX11_is_9 (by decide) ?_
  refine lv_isub hx hb dX11_is_10 ?_
  refine my_bei (v := (-1)) (by decide) ?_
  refine lv_i2l hx hb dX11_is_11 rfl ?_
  have hPc := hP.sub (ws' := []) [] rfl
  refine rd_calli (va_runS (As := [.long (Int32.toInt64 i), .long (Int32.toInt64 0), .long (Int32.toInt64 (-1))]) (rest := []) ⟨hx, hb, hml, hown, hts⟩ (c_in l G i 0 (-1) ) (my_cwS hts ok_X11_in w_162 rfl rfl ⟨Nat.le_of_ble_eq_true rfl, Nat.le_of_ble_eq_true rfl⟩) ⟨rP.blind, fun U hU hW => ⟨rfl, by rw [hU]; exact hPc, kG.warm hW hG⟩⟩ rfl rfl hl.1 rfl (lv_room (Nat.le_of_ble_eq_true rfl)) dX11_is_12 ⟨Nat.le_of_ble_eq_true rfl, Nat.le_of_ble_eq_true rfl⟩) (fun r hr9 => ?_)
  subst hr9
  refine my_bei (v := 0) (b2_f inB_e) ?_
  exact W.zret (v := 0) hx hb hr (rfl) (fun t ht hW => ⟨_, rfl, (rfl), ht⟩) (fun _ h => absurd h List.not_mem_nil) dX11_is_15
set_option maxHeartbeats 4000000 in
set_option maxRecDepth 100000 in
theorem c_one0 (l : Launch) (G : gW) (sz : Nat) (mo : Nat) (st : Nat) (mi : Nat) (mk : Nat) (m6 : Nat) (m7 : Nat) (m9 : Nat) (m10 : Nat) (m15 : Nat) (m16 : Nat) (m17 : Nat) (m18 : Nat) (m19 : Nat) (m20 : Nat) (m21 : Nat) (m22 : Nat) (m23 : Nat) (m24 : Nat) (n : Int32) (j3 : Int64) (j4 : Int64) (i5 : Int32) (i8 : Int32) (i11 : Int32) (i12 : Int32) (i13 : Int32) (i14 : Int32) (f : Nat → Int32) (hi : vp_in n 2246) (hz : f (Int32.toNatClampNeg n) = 0) : Met l yX11_one (wsT yX11_one cX11_one 2 (some .int)) ({ frames := 0, cells := 0, slots := 0, locals := 0 }) (wP G [.ref mo, .int n] sz [(mo, eO 10 [.ref st, .ref mi, .ref mk, .long j3, .long j4, .int i5, .ref m6, .ref m7, .int i8, .ref m9, .ref m10, .int i11, .int i12, .int i13, .int i14, .ref m15, .ref m16, .ref m17, .ref m18, .ref m19, .ref m20, .ref m21, .ref m22, .ref m23, .ref m24]), (st, eI G 2246 f)]) (va_Qi (fun (r : Int32) (_ : Unit) => r = 0) (fun _ _ => True) (va_A [(mo, eO 10 [.ref st, .ref mi, .ref mk, .long j3, .long j4, .int i5, .ref m6, .ref m7, .int i8, .ref m9, .ref m10, .int i11, .int i12, .int i13, .int i14, .ref m15, .ref m16, .ref m17, .ref m18, .ref m19, .ref m20, .ref m21, .ref m22, .ref m23, .ref m24]), (st, eI G 2246 f)] sz)) 0 0 (va_A [(mo, eO 10 [.ref st, .ref mi, .ref mk, .long j3, .long j4, .int i5, .ref m6, .ref m7, .int i8, .ref m9, .ref m10, .int i11, .int i12, .int i13, .int i14, .ref m15, .ref m16, .ref m17, .ref m18, .ref m19, .ref m20, .ref m21, .ref m22, .ref m23, .ref m24]), (st, eI G 2246 f)] sz) := by
  refine Met.ofW (cc := cX11_one) (maxL := 2) (ret := (some .int)) (by decide) rfl ?_
  intro p e s m args below meth c s₁ B hml hv
  obtain ⟨rfl, hsz, hP, hG, hD0⟩ := hv
  have hx := B.exec
  have hb := B.bytes
  have hr := B.returns
  have hts := my_hts (atoms_spec (ws := wsT yX11_one cX11_one 2 (some .int)) B.pre)
  have hown : s.vm.findClass RX11 = some m.cls := findClass_of_methodNamed B.named
  have hlocks := B.notSynchronized
  subst hsz
  have hD := hD0.self (sz := s.heap.size)
  generalize hAe : va_A [(mo, eO 10 [.ref st, .ref mi, .ref mk, .long j3, .long j4, .int i5, .ref m6, .ref m7, .int i8, .ref m9, .ref m10, .int i11, .int i12, .int i13, .int i14, .ref m15, .ref m16, .ref m17, .ref m18, .ref m19, .ref m20, .ref m21, .ref m22, .ref m23, .ref m24]), (st, eI G 2246 f)] s.heap.size = A at hD ⊢
  have hA : ∀ q : Nat, s.heap.size ≤ q → A q := fun q h => by rw [← hAe]; exact Or.inr h
  have hS : va_S A s.heap s.heap [] := va_S.rf
  have hP : va_P G.1 vwCl [(mo, eO 10 [.ref st, .ref mi, .ref mk, .long j3, .long j4, .int i5, .ref m6, .ref m7, .int i8, .ref m9, .ref m10, .int i11, .int i12, .int i13, .int i14, .ref m15, .ref m16, .ref m17, .ref m18, .ref m19, .ref m20, .ref m21, .ref m22, .ref m23, .ref m24]), (st, eI G 2246 f)] s.heap := hP
  have hl := lv_entry ([.ref mo, .int n]) (n := 2) (Nat.le_of_ble_eq_true rfl)
  rw [lg_entry_eq]
  generalize (lg_sl ([.ref mo, .int n]) ++ List.replicate (2 - (lg_sl ([.ref mo, .int n])).length) Slot.unset).toArray = ls at hl ⊢
  have hl : lv_has ls 2 [(0, .ref mo), (1, .int n)] := hl
  refine lv_aload_n hx hb dX11_one_0 rfl (lv_at hl 0 rfl) ?_
  refine va_get (D := G.1) (ci := 10) (v := .ref st) (C := RX11) (T := TX11) (N := 25) hx hb hts inlX11 hown hG.1 hP 0 rfl rfl 0 (by decide) (hts (.fieldLink RX11 7 "SwornListsModel" "st" "[I") w_112) (fun _ h9 => h9) rfl dX11_one_1 ?_
  refine lv_iload_n hx hb dX11_one_4 rfl (lv_at hl 1 rfl) ?_
  refine lv_dup2_11 hx hb dX11_one_5 rfl rfl ?_
  refine va_iald hx hb hG.1 hP 1 0 rfl rfl (hi) dX11_one_6 ?_
  refine my_bei (v := 0) (hz) ?_
  refine lv_iconst (v := 1) hx hb dX11_one_7 (by decide) ?_
  refine lv_iadd hx hb dX11_one_8 ?_
  refine my_bei (v := 1) (by decide) ?_
  refine va_iast hx hb hG.1 hP hD hS 1 0 rfl rfl (hi) dX11_one_9 (fun H locs hP hD hS => ?_)
  have hP : va_P G.1 vwCl [(mo, eO 10 [.ref st, .ref mi, .ref mk, .long j3, .long j4, .int i5, .ref m6, .ref m7, .int i8, .ref m9, .ref m10, .int i11, .int i12, .int i13, .int i14, .ref m15, .ref m16, .ref m17, .ref m18, .ref m19, .ref m20, .ref m21, .ref m22, .ref m23, .ref m24]), (st, eI G 2246 (upd f (Int32.toNatClampNeg n) 1))] H := hP
  have hD : va_D A [(mo, eO 10 [.ref st, .ref mi, .ref mk, .long j3, .long j4, .int i5, .ref m6, .ref m7, .int i8, .ref m9, .ref m10, .int i11, .int i12, .int i13, .int i14, .ref m15, .ref m16, .ref m17, .ref m18, .ref m19, .ref m20, .ref m21, .ref m22, .ref m23, .ref m24]), (st, eI G 2246 (upd f (Int32.toNatClampNeg n) 1))] := hD
  refine lv_aload_n hx hb dX11_one_10 rfl (lv_at hl 0 rfl) ?_
  refine lv_iconst (v := 0) hx hb dX11_one_11 (by decide) ?_
  refine va_put (D := G.1) (ci := 10) (v := .int 0) (ty := .boolean) (C := RX11) (T := TX11) (N := 25) hx hb hts inlX11 tyX11 tyX11_ok nmX11 hown hG.1 hP hD hS 0 rfl rfl 13 (by decide) (hts (.fieldLink RX11 71 "SwornListsModel" "isReady" "Z") w_169) (fun _ h9 => h9) rfl (by decide +kernel) rfl rfl (Nat.le_of_ble_eq_true rfl) dX11_one_12 (fun H locs hP hD hS => ?_)
  have hP : va_P G.1 vwCl [(mo, eO 10 [.ref st, .ref mi, .ref mk, .long j3, .long j4, .int i5, .ref m6, .ref m7, .int i8, .ref m9, .ref m10, .int i11, .int i12, .int 0, .int i14, .ref m15, .ref m16, .ref m17, .ref m18, .ref m19, .ref m20, .ref m21, .ref m22, .ref m23, .ref m24]), (st, eI G 2246 (upd f (Int32.toNatClampNeg n) 1))] H := hP
  have hD : va_D A [(mo, eO 10 [.ref st, .ref mi, .ref mk, .long j3, .long j4, .int i5, .ref m6, .ref m7, .int i8, .ref m9, .ref m10, .int i11, .int i12, .int 0, .int i14, .ref m15, .ref m16, .ref m17, .ref m18, .ref m19, .ref m20, .ref m21, .ref m22, .ref m23, .ref m24]), (st, eI G 2246 (upd f (Int32.toNatClampNeg n) 1))] := hD
  refine lv_aload_n hx hb dX11_one_15 rfl (lv_at hl 0 rfl) ?_
  refine va_get (D := G.1) (ci := 10) (v := .ref st) (C := RX11) (T := TX11) (N := 25) hx hb hts inlX11 hown hG.1 hP 0 rfl rfl 0 (by decide) (hts (.fieldLink RX11 7 "SwornListsModel" "st" "[I") w_112) (fun _ h9 => h9) rfl dX11_one_16 ?_
  refine lv_iload_n hx hb dX11_one_19 rfl (lv_at hl 1 rfl) ?_
  refine va_iald hx hb hG.1 hP 1 0 rfl rfl (hi) dX11_one_20 ?_
  refine my_bei (v := 1) (pk_us) ?_
  refine lv_iconst (v := 1) hx hb dX11_one_21 (by decide) ?_
  refine lv_isub hx hb dX11_one_22 ?_
  refine my_bei (v := 0) (by decide) ?_
  exact W.iret (v := 0) hx hb hr (fun t ht hW => ⟨⟨_, (), rfl, (rfl), trivial⟩, hS.F ht⟩) hS.2.2 dX11_one_23
set_option maxHeartbeats 4000000 in
set_option maxRecDepth 100000 in
theorem c_mpeople0 (l : Launch) (G : gW) (mo : Nat) (st : Nat) (mi : Nat) (mk : Nat) (m6 : Nat) (m7 : Nat) (m9 : Nat) (m10 : Nat) (m15 : Nat) (m16 : Nat) (m17 : Nat) (m18 : Nat) (m19 : Nat) (m20 : Nat) (m21 : Nat) (m22 : Nat) (m23 : Nat) (m24 : Nat) (j3 : Int64) (j4 : Int64) (i5 : Int32) (i8 : Int32) (i11 : Int32) (i12 : Int32) (i13 : Int32) (i14 : Int32)  : Met l yX11_people (wsT yX11_people cX11_people 1 (some .int)) ({ frames := 0, cells := 0, slots := 0, locals := 0 }) (rP G [.ref mo] [(mo, eO 10 [.ref st, .ref mi, .ref mk, .long j3, .long j4, .int i5, .ref m6, .ref m7, .int i8, .ref m9, .ref m10, .int i11, .int i12, .int i13, .int i14, .ref m15, .ref m16, .ref m17, .ref m18, .ref m19, .ref m20, .ref m21, .ref m22, .ref m23, .ref m24]), (st, eI G 2246 st0)]) (rQi (fun r => r = 0)) 0 0 fr0 := by
  refine Met.ofW (cc := cX11_people) (maxL := 1) (ret := (some .int)) (by decide) rfl ?_
  intro p e s m args below meth c s₁ B hml hv
  obtain ⟨rfl, hP, hG⟩ := hv
  have hx := B.exec
  have hb := B.bytes
  have hr := B.returns
  have hts := my_hts (atoms_spec (ws := wsT yX11_people cX11_people 1 (some .int)) B.pre)
  have hown : s.vm.findClass RX11 = some m.cls := findClass_of_methodNamed B.named
  have hlocks := B.notSynchronized
  have hP : va_P G.1 vwCl [(mo, eO 10 [.ref st, .ref mi, .ref mk, .long j3, .long j4, .int i5, .ref m6, .ref m7, .int i8, .ref m9, .ref m10, .int i11, .int i12, .int i13, .int i14, .ref m15, .ref m16, .ref m17, .ref m18, .ref m19, .ref m20, .ref m21, .ref m22, .ref m23, .ref m24]), (st, eI G 2246 st0)] s.heap := hP
  have hl := lv_entry ([.ref mo]) (n := 1) (Nat.le_of_ble_eq_true rfl)
  rw [lg_entry_eq]
  generalize (lg_sl ([.ref mo]) ++ List.replicate (1 - (lg_sl ([.ref mo])).length) Slot.unset).toArray = ls at hl ⊢
  have hl : lv_has ls 1 [(0, .ref mo)] := hl
  refine lv_iconst (v := 1) hx hb dX11_people_0 (by decide) ?_
  refine lv_aload_n hx hb dX11_people_1 rfl (lv_at hl 0 rfl) ?_
  refine va_get (D := G.1) (ci := 10) (v := .ref st) (C := RX11) (T := TX11) (N := 25) hx hb hts inlX11 hown hG.1 hP 0 rfl rfl 0 (by decide) (hts (.fieldLink RX11 7 "SwornListsModel" "st" "[I") w_112) (fun _ h9 => h9) rfl dX11_people_2 ?_
  refine lv_iconst (v := 0) hx hb dX11_people_5 (by decide) ?_
  refine va_iald hx hb hG.1 hP 1 0 rfl rfl (by unfold vp_in; decide) dX11_people_6 ?_
  refine my_bei (v := 0) (by first | rfl | decide) ?_
  refine lv_ishl hx hb dX11_people_7 ?_
  refine my_bei (v := 1) (by decide) ?_
  refine lv_iconst (v := 1) hx hb dX11_people_8 (by decide) ?_
  refine lv_isub hx hb dX11_people_9 ?_
  refine my_bei (v := 0) (by decide) ?_
  exact W.iret (v := 0) hx hb hr (fun t ht hW => ⟨_, rfl, (rfl), ht⟩) (fun _ h => absurd h List.not_mem_nil) dX11_people_10
set_option maxHeartbeats 4000000 in
set_option maxRecDepth 100000 in
theorem c_sizeOf0 (l : Launch) (G : gW)   : Met l yX11_sizeOf (wsT yX11_sizeOf cX11_sizeOf 3 (some .int)) ({ frames := 0, cells := 0, slots := 0, locals := 0 }) (rP G [.int 0] []) (rQi (fun r => r = 0)) 0 0 fr0 := by
  refine Met.ofW (cc := cX11_sizeOf) (maxL := 3) (ret := (some .int)) (by decide) rfl ?_
  intro p e s m args below meth c s₁ B hml hv
  obtain ⟨rfl, hP, hG⟩ := hv
  have hx := B.exec
  have hb := B.bytes
  have hr := B.returns
  have hts := my_hts (atoms_spec (ws := wsT yX11_sizeOf cX11_sizeOf 3 (some .int)) B.pre)
  have hown : s.vm.findClass RX11 = some m.cls := findClass_of_methodNamed B.named
  have hlocks := B.notSynchronized
  have hP : va_P G.1 vwCl [] s.heap := hP
  have hl := lv_entry ([.int 0]) (n := 3) (Nat.le_of_ble_eq_true rfl)
  rw [lg_entry_eq]
  generalize (lg_sl ([.int 0]) ++ List.replicate (3 - (lg_sl ([.int 0])).length) Slot.unset).toArray = ls at hl ⊢
  have hl : lv_has ls 3 [(0, .int 0)] := hl
  refine lv_iconst (v := 0) hx hb dX11_sizeOf_0 (by decide) ?_
  refine lv_istore_n (lv' := [(1, .int 0), (0, .int 0)]) hx hb dX11_sizeOf_1 rfl hl (by decide) rfl (fun ls hl => ?_)
  refine lv_iload_n hx hb dX11_sizeOf_2 rfl (lv_at hl 1 rfl) ?_
  refine lv_istore_n (lv' := [(2, .int 0), (1, .int 0), (0, .int 0)]) hx hb dX11_sizeOf_3 rfl hl (by decide) rfl (fun ls hl => ?_)
  refine lv_iload_n hx hb dX11_sizeOf_4 rfl (lv_at hl 0 rfl) ?_
  refine lv_if_le (tgt := 21) hx hb dX11_sizeOf_5 (by decide) (fun c_5 => ?_) (fun c_5 => absurd (by decide) c_5)
  refine lv_iload_n hx hb dX11_sizeOf_21 rfl (lv_at hl 1 rfl) ?_
  exact W.iret (v := 0) hx hb hr (fun t ht hW => ⟨_, rfl, (rfl), ht⟩) (fun _ h => absurd h List.not_mem_nil) dX11_sizeOf_22
set_option maxHeartbeats 4000000 in
set_option maxRecDepth 100000 in
theorem c_misDay (l : Launch) (G : gW) (d : Int32)  : Met l yX11_isDay (wsT yX11_isDay cX11_isDay 1 (some .boolean)) ({ frames := 1, cells := 0, slots := 0, locals := 25 }) (rP G [.int d] []) (rQi (fun r => r = b2 (inB 0 d 9999 = true))) 0 0 fr0 := by
  refine Met.ofW (cc := cX11_isDay) (maxL := 1) (ret := (some .boolean)) (by decide) rfl ?_
  intro p e s m args below meth c s₁ B hml hv
  obtain ⟨rfl, hP, hG⟩ := hv
  have hx := B.exec
  have hb := B.bytes
  have hr := B.returns
  have hts := my_hts (atoms_spec (ws := wsT yX11_isDay cX11_isDay 1 (some .boolean)) B.pre)
  have hown : s.vm.findClass RX11 = some m.cls := findClass_of_methodNamed B.named
  have hlocks := B.notSynchronized
  have hP : va_P G.1 vwCl [] s.heap := hP
  have hl := lv_entry ([.int d]) (n := 1) (Nat.le_of_ble_eq_true rfl)
  rw [lg_entry_eq]
  generalize (lg_sl ([.int d]) ++ List.replicate (1 - (lg_sl ([.int d])).length) Slot.unset).toArray = ls at hl ⊢
  have hl : lv_has ls 1 [(0, .int d)] := hl
  refine lv_iload_n hx hb dX11_isDay_0 rfl (lv_at hl 0 rfl) ?_
  refine lv_i2l hx hb dX11_isDay_1 rfl ?_
  refine lv_lconst (v := 0) hx hb dX11_isDay_2 (by decide) ?_
  refine my_bel (v := Int32.toInt64 0) (by decide) ?_
  refine lv_ldc2 (v := 9999) hx hb hown (hts (.constantLong RX11 75 (9999)) w_193) dX11_isDay_3 ?_
  refine my_bel (v := Int32.toInt64 9999) (by decide) ?_
  have hPc := hP.sub (ws' := []) [] rfl
  refine rd_calli (va_runS (As := [.long (Int32.toInt64 d), .long (Int32.toInt64 0), .long (Int32.toInt64 9999)]) (rest := []) ⟨hx, hb, hml, hown, hts⟩ (c_in l G d 0 9999 ) (my_cwS hts ok_X11_in w_162 rfl rfl ⟨Nat.le_of_ble_eq_true rfl, Nat.le_of_ble_eq_true rfl⟩) ⟨rP.blind, fun U hU hW => ⟨rfl, by rw [hU]; exact hPc, kG.warm hW hG⟩⟩ rfl rfl hl.1 rfl (lv_room (Nat.le_of_ble_eq_true rfl)) dX11_isDay_6 ⟨Nat.le_of_ble_eq_true rfl, Nat.le_of_ble_eq_true rfl⟩) (fun r hr9 => ?_)
  subst hr9
  exact W.zret (v := b2 (inB 0 d 9999 = true)) hx hb hr (b2_nar) (fun t ht hW => ⟨_, rfl, (rfl), ht⟩) (fun _ h => absurd h List.not_mem_nil) dX11_isDay_9
set_option maxHeartbeats 4000000 in
set_option maxRecDepth 100000 in
theorem c_misText (l : Launch) (G : gW) (d : Int32)  : Met l yX11_isText (wsT yX11_isText cX11_isText 1 (some .boolean)) ({ frames := 1, cells := 0, slots := 0, locals := 25 }) (rP G [.int d] []) (rQi (fun r => r = b2 (inB 0 d 3 = true))) 0 0 fr0 := by
  refine Met.ofW (cc := cX11_isText) (maxL := 1) (ret := (some .boolean)) (by decide) rfl ?_
  intro p e s m args below meth c s₁ B hml hv
  obtain ⟨rfl, hP, hG⟩ := hv
  have hx := B.exec
  have hb := B.bytes
  have hr := B.returns
  have hts := my_hts (atoms_spec (ws := wsT yX11_isText cX11_isText 1 (some .boolean)) B.pre)
  have hown : s.vm.findClass RX11 = some m.cls := findClass_of_methodNamed B.named
  have hlocks := B.notSynchronized
  have hP : va_P G.1 vwCl [] s.heap := hP
  have hl := lv_entry ([.int d]) (n := 1) (Nat.le_of_ble_eq_true rfl)
  rw [lg_entry_eq]
  generalize (lg_sl ([.int d]) ++ List.replicate (1 - (lg_sl ([.int d])).length) Slot.unset).toArray = ls at hl ⊢
  have hl : lv_has ls 1 [(0, .int d)] := hl
  refine lv_iload_n hx hb dX11_isText_0 rfl (lv_at hl 0 rfl) ?_
  refine lv_i2l hx hb dX11_isText_1 rfl ?_
  refine lv_lconst (v := 0) hx hb dX11_isText_2 (by decide) ?_
  refine my_bel (v := Int32.toInt64 0) (by decide) ?_
  refine lv_ldc2 (v := 3) hx hb hown (hts (.constantLong RX11 77 (3)) w_159) dX11_isText_3 ?_
  refine my_bel (v := Int32.toInt64 3) (by decide) ?_
  have hPc := hP.sub (ws' := []) [] rfl
  refine rd_calli (va_runS (As := [.long (Int32.toInt64 d), .long (Int32.toInt64 0), .long (Int32.toInt64 3)]) (rest := []) ⟨hx, hb, hml, hown, hts⟩ (c_in l G d 0 3 ) (my_cwS hts ok_X11_in w_162 rfl rfl ⟨Nat.le_of_ble_eq_true rfl, Nat.le_of_ble_eq_true rfl⟩) ⟨rP.blind, fun U hU hW => ⟨rfl, by rw [hU]; exact hPc, kG.warm hW hG⟩⟩ rfl rfl hl.1 rfl (lv_room (Nat.le_of_ble_eq_true rfl)) dX11_isText_6 ⟨Nat.le_of_ble_eq_true rfl, Nat.le_of_ble_eq_true rfl⟩) (fun r hr9 => ?_)
  subst hr9
  exact W.zret (v := b2 (inB 0 d 3 = true)) hx hb hr (b2_nar) (fun t ht hW => ⟨_, rfl, (rfl), ht⟩) (fun _ h => absurd h List.not_mem_nil) dX11_isText_9
set_option maxHeartbeats 4000000 in
set_option maxRecDepth 100000 in
theorem c_theRoll0 (l : Launch) (G : gW) (mo : Nat) (st : Nat) (mi : Nat) (mk : Nat) (m6 : Nat) (m7 : Nat) (m9 : Nat) (m10 : Nat) (m15 : Nat) (m16 : Nat) (m17 : Nat) (m18 : Nat) (m19 : Nat) (m20 : Nat) (m21 : Nat) (m22 : Nat) (m23 : Nat) (m24 : Nat) (a1 : Int32) (j3 : Int64) (j4 : Int64) (i5 : Int32) (i8 : Int32) (i11 : Int32) (i12 : Int32) (i13 : Int32) (i14 : Int32)  : Met l yX11_theRoll (wsT yX11_theRoll cX11_theRoll 5 (some .int)) ({ frames := 1, cells := 0, slots := 0, locals := 20 }) (rP G [.ref mo, .int a1] [(mo, eO 10 [.ref st, .ref mi, .ref mk, .long j3, .long j4, .int i5, .ref m6, .ref m7, .int i8, .ref m9, .ref m10, .int i11, .int i12, .int i13, .int i14, .ref m15, .ref m16, .ref m17, .ref m18, .ref m19, .ref m20, .ref m21, .ref m22, .ref m23, .ref m24]), (st, eI G 2246 st0)]) (rQi (fun r => r = 0)) 0 0 fr0 := by
  refine Met.ofW (cc := cX11_theRoll) (maxL := 5) (ret := (some .int)) (by decide) rfl ?_
  intro p e s m args below meth c s₁ B hml hv
  obtain ⟨rfl, hP, hG⟩ := hv
  have hx := B.exec
  have hb := B.bytes
  have hr := B.returns
  have hts := my_hts (atoms_spec (ws := wsT yX11_theRoll cX11_theRoll 5 (some .int)) B.pre)
  have hown : s.vm.findClass RX11 = some m.cls := findClass_of_methodNamed B.named
  have hlocks := B.notSynchronized
  have hP : va_P G.1 vwCl [(mo, eO 10 [.ref st, .ref mi, .ref mk, .long j3, .long j4, .int i5, .ref m6, .ref m7, .int i8, .ref m9, .ref m10, .int i11, .int i12, .int i13, .int i14, .ref m15, .ref m16, .ref m17, .ref m18, .ref m19, .ref m20, .ref m21, .ref m22, .ref m23, .ref m24]), (st, eI G 2246 st0)] s.heap := hP
  have hl := lv_entry ([.ref mo, .int a1]) (n := 5) (Nat.le_of_ble_eq_true rfl)
  rw [lg_entry_eq]
  generalize (lg_sl ([.ref mo, .int a1]) ++ List.replicate (5 - (lg_sl ([.ref mo, .int a1])).length) Slot.unset).toArray = ls at hl ⊢
  have hl : lv_has ls 5 [(0, .ref mo), (1, .int a1)] := hl
  refine lv_iconst (v := (-1)) hx hb dX11_theRoll_0 (by decide) ?_
  refine lv_istore_n (lv' := [(2, .int (-1)), (0, .ref mo), (1, .int a1)]) hx hb dX11_theRoll_1 rfl hl (by decide) rfl (fun ls hl => ?_)
  refine lv_iconst (v := 0) hx hb dX11_theRoll_2 (by decide) ?_
  refine lv_istore_n (lv' := [(3, .int 0), (2, .int (-1)), (0, .ref mo), (1, .int a1)]) hx hb dX11_theRoll_3 rfl hl (by decide) rfl (fun ls hl => ?_)
  refine lv_iload_n hx hb dX11_theRoll_4 rfl (lv_at hl 0 rfl) ?_
  refine lv_aload_n hx hb dX11_theRoll_5 rfl (lv_at hl 2 rfl) ?_
  refine va_get (D := G.1) (ci := 10) (v := .ref st) (C := RX11) (T := TX11) (N := 25) hx hb hts inlX11 hown hG.1 hP 0 rfl rfl 0 (by decide) (hts (.fieldLink RX11 7 "SwornListsModel" "st" "[I") w_112) (fun _ h9 => h9) rfl dX11_theRoll_6 ?_
  refine lv_iconst (v := 2) hx hb dX11_theRoll_9 (by decide) ?_
  refine va_iald hx hb hG.1 hP 1 0 rfl rfl (by unfold vp_in; decide) dX11_theRoll_10 ?_
  refine my_bei (v := 0) (by first | rfl | decide) ?_
  refine lv_icmp_ge (tgt := 92) hx hb dX11_theRoll_11 (by decide) (fun c_11 => ?_) (fun c_11 => absurd (by decide) c_11)
  refine lv_iload_n hx hb dX11_theRoll_92 rfl (lv_at hl 1 rfl) ?_
  refine lv_iconst (v := (-1)) hx hb dX11_theRoll_93 (by decide) ?_
  refine lv_icmp_ne (tgt := 104) hx hb dX11_theRoll_94 (by decide) (fun c_94 => absurd (by decide) c_94) (fun c_94 => ?_)
  refine lv_aload_n hx hb dX11_theRoll_97 rfl (lv_at hl 2 rfl) ?_
  have hPc := hP.sub (ws' := [(mo, eO 10 [.ref st, .ref mi, .ref mk, .long j3, .long j4, .int i5, .ref m6, .ref m7, .int i8, .ref m9, .ref m10, .int i11, .int i12, .int i13, .int i14, .ref m15, .ref m16, .ref m17, .ref m18, .ref m19, .ref m20, .ref m21, .ref m22, .ref m23, .ref m24]), (st, eI G 2246 st0)]) [0, 1] rfl
  refine rd_calli (va_runV (As := []) (rest := []) ⟨hx, hb, hml, hown, hts⟩ (c_mpeople0 l G mo st mi mk m6 m7 m9 m10 m15 m16 m17 m18 m19 m20 m21 m22 m23 m24 j3 j4 i5 i8 i11 i12 i13 i14 ) (my_cwV hts ok_X11_people w_213 rfl rfl ⟨Nat.le_of_ble_eq_true rfl, Nat.le_of_ble_eq_true rfl⟩) ⟨rP.blind, va_recv hG.1 hPc (ci := 10) (q0 := 0) rfl rfl, fun U hU hW => ⟨rfl, by rw [hU]; exact hPc, kG.warm hW hG⟩⟩ rfl rfl hl.1 rfl (lv_room (Nat.le_of_ble_eq_true rfl)) dX11_theRoll_98 ⟨Nat.le_of_ble_eq_true rfl, Nat.le_of_ble_eq_true rfl⟩) (fun r hr9 => ?_)
  subst hr9
  refine lv_goto (tgt := 116) hx hb dX11_theRoll_101 (by decide) ?_
  exact W.iret (v := 0) hx hb hr (fun t ht hW => ⟨_, rfl, (rfl), ht⟩) (fun _ h => absurd h List.not_mem_nil) dX11_theRoll_116
set_option maxHeartbeats 4000000 in
set_option maxRecDepth 100000 in
theorem c_inForceM (l : Launch) (G : gW) (mo : Nat) (st : Nat) (mi : Nat) (mk : Nat) (m6 : Nat) (m7 : Nat) (m9 : Nat) (m10 : Nat) (m15 : Nat) (m16 : Nat) (m17 : Nat) (m18 : Nat) (m19 : Nat) (m20 : Nat) (m21 : Nat) (m22 : Nat) (m23 : Nat) (m24 : Nat) (a1 : Int32) (a2 : Int32) (j3 : Int64) (j4 : Int64) (i5 : Int32) (i8 : Int32) (i11 : Int32) (i12 : Int32) (i13 : Int32) (i14 : Int32)  : Met l yX11_inForce (wsT yX11_inForce cX11_inForce 7 (some .int)) ({ frames := 0, cells := 0, slots := 0, locals := 0 }) (rP G [.ref mo, .int a1, .int a2] [(mo, eO 10 [.ref st, .ref mi, .ref mk, .long j3, .long j4, .int i5, .ref m6, .ref m7, .int i8, .ref m9, .ref m10, .int i11, .int i12, .int i13, .int i14, .ref m15, .ref m16, .ref m17, .ref m18, .ref m19, .ref m20, .ref m21, .ref m22, .ref m23, .ref m24]), (st, eI G 2246 st0)]) (rQi (fun r => r = (-1))) 0 0 fr0 := by
  refine Met.ofW (cc := cX11_inForce) (maxL := 7) (ret := (some .int)) (by decide) rfl ?_
  intro p e s m args below meth c s₁ B hml hv
  obtain ⟨rfl, hP, hG⟩ := hv
  have hx := B.exec
  have hb := B.bytes
  have hr := B.returns
  have hts := my_hts (atoms_spec (ws := wsT yX11_inForce cX11_inForce 7 (some .int)) B.pre)
  have hown : s.vm.findClass RX11 = some m.cls := findClass_of_methodNamed B.named
  have hlocks := B.notSynchronized
  have hP : va_P G.1 vwCl [(mo, eO 10 [.ref st, .ref mi, .ref mk, .long j3, .long j4, .int i5, .ref m6, .ref m7, .int i8, .ref m9, .ref m10, .int i11, .int i12, .int i13, .int i14, .ref m15, .ref m16, .ref m17, .ref m18, .ref m19, .ref m20, .ref m21, .ref m22, .ref m23, .ref m24]), (st, eI G 2246 st0)] s.heap := hP
  have hl := lv_entry ([.ref mo, .int a1, .int a2]) (n := 7) (Nat.le_of_ble_eq_true rfl)
  rw [lg_entry_eq]
  generalize (lg_sl ([.ref mo, .int a1, .int a2]) ++ List.replicate (7 - (lg_sl ([.ref mo, .int a1, .int a2])).length) Slot.unset).toArray = ls at hl ⊢
  have hl : lv_has ls 7 [(0, .ref mo), (1, .int a1), (2, .int a2)] := hl
  refine lv_iconst (v := (-1)) hx hb dX11_inForce_0 (by decide) ?_
  refine lv_istore_n (lv' := [(3, .int (-1)), (0, .ref mo), (1, .int a1), (2, .int a2)]) hx hb dX11_inForce_1 rfl hl (by decide) rfl (fun ls hl => ?_)
  refine lv_iconst (v := 0) hx hb dX11_inForce_2 (by decide) ?_
  refine lv_istore (lv' := [(4, .int 0), (3, .int (-1)), (0, .ref mo), (1, .int a1), (2, .int a2)]) hx hb dX11_inForce_3 hl (by decide) rfl (fun ls hl => ?_)
  refine lv_iload hx hb dX11_inForce_5 (lv_at hl 0 rfl) ?_
  refine lv_aload_n hx hb dX11_inForce_7 rfl (lv_at hl 2 rfl) ?_
  refine va_get (D := G.1) (ci := 10) (v := .ref st) (C := RX11) (T := TX11) (N := 25) hx hb hts inlX11 hown hG.1 hP 0 rfl rfl 0 (by decide) (hts (.fieldLink RX11 7 "SwornListsModel" "st" "[I") w_112) (fun _ h9 => h9) rfl dX11_inForce_8 ?_
  refine lv_iconst (v := 3) hx hb dX11_inForce_11 (by decide) ?_
  refine va_iald hx hb hG.1 hP 1 0 rfl rfl (by unfold vp_in; decide) dX11_inForce_12 ?_
  refine my_bei (v := 0) (by first | rfl | decide) ?_
  refine lv_icmp_ge (tgt := 134) hx hb dX11_inForce_13 (by decide) (fun c_13 => ?_) (fun c_13 => absurd (by decide) c_13)
  refine lv_iload_n hx hb dX11_inForce_134 rfl (lv_at hl 1 rfl) ?_
  exact W.iret (v := (-1)) hx hb hr (fun t ht hW => ⟨_, rfl, (rfl), ht⟩) (fun _ h => absurd h List.not_mem_nil) dX11_inForce_135
set_option maxHeartbeats 4000000 in
set_option maxRecDepth 100000 in
theorem c_whom0 (l : Launch) (G : gW) (mo : Nat) (st : Nat) (mi : Nat) (mk : Nat) (m6 : Nat) (m7 : Nat) (m9 : Nat) (m10 : Nat) (m15 : Nat) (m16 : Nat) (m17 : Nat) (m18 : Nat) (m19 : Nat) (m20 : Nat) (m21 : Nat) (m22 : Nat) (m23 : Nat) (m24 : Nat) (a2 : Int32) (j3 : Int64) (j4 : Int64) (i5 : Int32) (i8 : Int32) (i11 : Int32) (i12 : Int32) (i13 : Int32) (i14 : Int32)  : Met l yX11_whom (wsT yX11_whom cX11_whom 8 (some .int)) ({ frames := 1, cells := 0, slots := 0, locals := 26 }) (rP G [.ref mo, .int 0, .int a2, .int (-1)] [(mo, eO 10 [.ref st, .ref mi, .ref mk, .long j3, .long j4, .int i5, .ref m6, .ref m7, .int i8, .ref m9, .ref m10, .int i11, .int i12, .int i13, .int i14, .ref m15, .ref m16, .ref m17, .ref m18, .ref m19, .ref m20, .ref m21, .ref m22, .ref m23, .ref m24]), (st, eI G 2246 st0)]) (rQi (fun r => r = 0)) 0 0 fr0 := by
  refine Met.ofW (cc := cX11_whom) (maxL := 8) (ret := (some .int)) (by decide) rfl ?_
  intro p e s m args below meth c s₁ B hml hv
  obtain ⟨rfl, hP, hG⟩ := hv
  have hx := B.exec
  have hb := B.bytes
  have hr := B.returns
  have hts := my_hts (atoms_spec (ws := wsT yX11_whom cX11_whom 8 (some .int)) B.pre)
  have hown : s.vm.findClass RX11 = some m.cls := findClass_of_methodNamed B.named
  have hlocks := B.notSynchronized
  have hP : va_P G.1 vwCl [(mo, eO 10 [.ref st, .ref mi, .ref mk, .long j3, .long j4, .int i5, .ref m6, .ref m7, .int i8, .ref m9, .ref m10, .int i11, .int i12, .int i13, .int i14, .ref m15, .ref m16, .ref m17, .ref m18, .ref m19, .ref m20, .ref m21, .ref m22, .ref m23, .ref m24]), (st, eI G 2246 st0)] s.heap := hP
  have hl := lv_entry ([.ref mo, .int 0, .int a2, .int (-1)]) (n := 8) (Nat.le_of_ble_eq_true rfl)
  rw [lg_entry_eq]
  generalize (lg_sl ([.ref mo, .int 0, .int a2, .int (-1)]) ++ List.replicate (8 - (lg_sl ([.ref mo, .int 0, .int a2, .int (-1)])).length) Slot.unset).toArray = ls at hl ⊢
  have hl : lv_has ls 8 [(0, .ref mo), (1, .int 0), (2, .int a2), (3, .int (-1))] := hl
  refine lv_aload_n hx hb dX11_whom_0 rfl (lv_at hl 0 rfl) ?_
  refine lv_iload_n hx hb dX11_whom_1 rfl (lv_at hl 1 rfl) ?_
  refine lv_iload_n hx hb dX11_whom_2 rfl (lv_at hl 2 rfl) ?_
  have hPc := hP.sub (ws' := [(mo, eO 10 [.ref st, .ref mi, .ref mk, .long j3, .long j4, .int i5, .ref m6, .ref m7, .int i8, .ref m9, .ref m10, .int i11, .int i12, .int i13, .int i14, .ref m15, .ref m16, .ref m17, .ref m18, .ref m19, .ref m20, .ref m21, .ref m22, .ref m23, .ref m24]), (st, eI G 2246 st0)]) [0, 1] rfl
  refine rd_calli (va_runV (As := [.int 0, .int a2]) (rest := []) ⟨hx, hb, hml, hown, hts⟩ (c_inForceM l G mo st mi mk m6 m7 m9 m10 m15 m16 m17 m18 m19 m20 m21 m22 m23 m24 0 a2 j3 j4 i5 i8 i11 i12 i13 i14 ) (my_cwV hts ok_X11_inForce w_540 rfl rfl ⟨Nat.le_of_ble_eq_true rfl, Nat.le_of_ble_eq_true rfl⟩) ⟨rP.blind, va_recv hG.1 hPc (ci := 10) (q0 := 0) rfl rfl, fun U hU hW => ⟨rfl, by rw [hU]; exact hPc, kG.warm hW hG⟩⟩ rfl rfl hl.1 rfl (lv_room (Nat.le_of_ble_eq_true rfl)) dX11_whom_3 ⟨Nat.le_of_ble_eq_true rfl, Nat.le_of_ble_eq_true rfl⟩) (fun r hr9 => ?_)
  subst hr9
  refine lv_istore (lv' := [(4, .int (-1)), (0, .ref mo), (1, .int 0), (2, .int a2), (3, .int (-1))]) hx hb dX11_whom_6 hl (by decide) rfl (fun ls hl => ?_)
  refine lv_iload_n hx hb dX11_whom_8 rfl (lv_at hl 4 rfl) ?_
  refine lv_iconst (v := (-1)) hx hb dX11_whom_9 (by decide) ?_
  refine lv_icmp_eq (tgt := 24) hx hb dX11_whom_10 (by decide) (fun c_10 => ?_) (fun c_10 => absurd (by decide) c_10)
  refine lv_iload hx hb dX11_whom_24 (lv_at hl 0 rfl) ?_
  refine lv_iconst (v := (-1)) hx hb dX11_whom_26 (by decide) ?_
  refine lv_icmp_ne (tgt := 34) hx hb dX11_whom_27 (by decide) (fun c_27 => absurd (by decide) c_27) (fun c_27 => ?_)
  refine lv_iconst (v := (-1)) hx hb dX11_whom_30 (by decide) ?_
  refine lv_goto (tgt := 45) hx hb dX11_whom_31 (by decide) ?_
  refine lv_istore (lv' := [(5, .int (-1)), (4, .int (-1)), (0, .ref mo), (1, .int 0), (2, .int a2), (3, .int (-1))]) hx hb dX11_whom_45 hl (by decide) rfl (fun ls hl => ?_)
  refine lv_iload hx hb dX11_whom_47 (lv_at hl 0 rfl) ?_
  refine lv_iconst (v := (-1)) hx hb dX11_whom_49 (by decide) ?_
  refine lv_icmp_ne (tgt := 66) hx hb dX11_whom_50 (by decide) (fun c_50 => absurd (by decide) c_50) (fun c_50 => ?_)
  refine lv_iload_n hx hb dX11_whom_53 rfl (lv_at hl 3 rfl) ?_
  refine lv_if_ne (tgt := 64) hx hb dX11_whom_54 (by decide) (fun c_54 => absurd (by decide) c_54) (fun c_54 => ?_)
  refine lv_aload_n hx hb dX11_whom_57 rfl (lv_at hl 2 rfl) ?_
  have hPc := hP.sub (ws' := [(mo, eO 10 [.ref st, .ref mi, .ref mk, .long j3, .long j4, .int i5, .ref m6, .ref m7, .int i8, .ref m9, .ref m10, .int i11, .int i12, .int i13, .int i14, .ref m15, .ref m16, .ref m17, .ref m18, .ref m19, .ref m20, .ref m21, .ref m22, .ref m23, .ref m24]), (st, eI G 2246 st0)]) [0, 1] rfl
  refine rd_calli (va_runV (As := []) (rest := []) ⟨hx, hb, hml, hown, hts⟩ (c_mpeople0 l G mo st mi mk m6 m7 m9 m10 m15 m16 m17 m18 m19 m20 m21 m22 m23 m24 j3 j4 i5 i8 i11 i12 i13 i14 ) (my_cwV hts ok_X11_people w_213 rfl rfl ⟨Nat.le_of_ble_eq_true rfl, Nat.le_of_ble_eq_true rfl⟩) ⟨rP.blind, va_recv hG.1 hPc (ci := 10) (q0 := 0) rfl rfl, fun U hU hW => ⟨rfl, by rw [hU]; exact hPc, kG.warm hW hG⟩⟩ rfl rfl hl.1 rfl (lv_room (Nat.le_of_ble_eq_true rfl)) dX11_whom_58 ⟨Nat.le_of_ble_eq_true rfl, Nat.le_of_ble_eq_true rfl⟩) (fun r hr9 => ?_)
  subst hr9
  refine lv_goto (tgt := 65) hx hb dX11_whom_61 (by decide) ?_
  exact W.iret (v := 0) hx hb hr (fun t ht hW => ⟨_, rfl, (rfl), ht⟩) (fun _ h => absurd h List.not_mem_nil) dX11_whom_65
set_option maxHeartbeats 4000000 in
set_option maxRecDepth 100000 in
theorem c_settles0 (l : Launch) (G : gW) (sz : Nat) (mo : Nat) (st : Nat) (mi : Nat) (mk : Nat) (m6 : Nat) (m7 : Nat) (m9 : Nat) (m10 : Nat) (m15 : Nat) (m16 : Nat) (m17 : Nat) (m18 : Nat) (m19 : Nat) (m20 : Nat) (m21 : Nat) (m22 : Nat) (m23 : Nat) (m24 : Nat) (a1 : Int32) (j3 : Int64) (j4 : Int64) (i5 : Int32) (i11 : Int32) (i12 : Int32) (i13 : Int32) (i14 : Int32)  : Met l yX11_settles (wsT yX11_settles cX11_settles 2 none) ({ frames := 0, cells := 0, slots := 0, locals := 0 }) (wP G [.ref mo, .int a1] sz [(mo, eO 10 [.ref st, .ref mi, .ref mk, .long j3, .long j4, .int i5, .ref m6, .ref m7, .int 0, .ref m9, .ref m10, .int i11, .int i12, .int i13, .int i14, .ref m15, .ref m16, .ref m17, .ref m18, .ref m19, .ref m20, .ref m21, .ref m22, .ref m23, .ref m24])]) (va_Qv (fun _ : Unit => True) (wB G (va_A [(mo, eO 10 [.ref st, .ref mi, .ref mk, .long j3, .long j4, .int i5, .ref m6, .ref m7, .int 0, .ref m9, .ref m10, .int i11, .int i12, .int i13, .int i14, .ref m15, .ref m16, .ref m17, .ref m18, .ref m19, .ref m20, .ref m21, .ref m22, .ref m23, .ref m24])] sz) (fun _ : Unit => [(mo, eO 10 [.ref st, .ref mi, .ref mk, .long j3, .long j4, .int i5, .ref m6, .ref m7, .int 0, .ref m9, .ref m10, .int i11, .int i12, .int i13, .int i14, .ref m15, .ref m16, .ref m17, .ref m18, .ref m19, .ref m20, .ref m21, .ref m22, .ref m23, .ref m24])])) (va_A [(mo, eO 10 [.ref st, .ref mi, .ref mk, .long j3, .long j4, .int i5, .ref m6, .ref m7, .int 0, .ref m9, .ref m10, .int i11, .int i12, .int i13, .int i14, .ref m15, .ref m16, .ref m17, .ref m18, .ref m19, .ref m20, .ref m21, .ref m22, .ref m23, .ref m24])] sz)) 0 0 (va_A [(mo, eO 10 [.ref st, .ref mi, .ref mk, .long j3, .long j4, .int i5, .ref m6, .ref m7, .int 0, .ref m9, .ref m10, .int i11, .int i12, .int i13, .int i14, .ref m15, .ref m16, .ref m17, .ref m18, .ref m19, .ref m20, .ref m21, .ref m22, .ref m23, .ref m24])] sz) := by
  refine Met.ofW (cc := cX11_settles) (maxL := 2) (ret := none) (by decide) rfl ?_
  intro p e s m args below meth c s₁ B hml hv
  obtain ⟨rfl, hsz, hP, hG, hD0⟩ := hv
  have hx := B.exec
  have hb := B.bytes
  have hr := B.returns
  have hts := my_hts (atoms_spec (ws := wsT yX11_settles cX11_settles 2 none) B.pre)
  have hown : s.vm.findClass RX11 = some m.cls := findClass_of_methodNamed B.named
  have hlocks := B.notSynchronized
  subst hsz
  have hD := hD0.self (sz := s.heap.size)
  generalize hAe : va_A [(mo, eO 10 [.ref st, .ref mi, .ref mk, .long j3, .long j4, .int i5, .ref m6, .ref m7, .int 0, .ref m9, .ref m10, .int i11, .int i12, .int i13, .int i14, .ref m15, .ref m16, .ref m17, .ref m18, .ref m19, .ref m20, .ref m21, .ref m22, .ref m23, .ref m24])] s.heap.size = A at hD ⊢
  have hA : ∀ q : Nat, s.heap.size ≤ q → A q := fun q h => by rw [← hAe]; exact Or.inr h
  have hS : va_S A s.heap s.heap [] := va_S.rf
  have hP : va_P G.1 vwCl [(mo, eO 10 [.ref st, .ref mi, .ref mk, .long j3, .long j4, .int i5, .ref m6, .ref m7, .int 0, .ref m9, .ref m10, .int i11, .int i12, .int i13, .int i14, .ref m15, .ref m16, .ref m17, .ref m18, .ref m19, .ref m20, .ref m21, .ref m22, .ref m23, .ref m24])] s.heap := hP
  have hl := lv_entry ([.ref mo, .int a1]) (n := 2) (Nat.le_of_ble_eq_true rfl)
  rw [lg_entry_eq]
  generalize (lg_sl ([.ref mo, .int a1]) ++ List.replicate (2 - (lg_sl ([.ref mo, .int a1])).length) Slot.unset).toArray = ls at hl ⊢
  have hl : lv_has ls 2 [(0, .ref mo), (1, .int a1)] := hl
  refine lv_aload_n hx hb dX11_settles_0 rfl (lv_at hl 0 rfl) ?_
  refine va_get (D := G.1) (ci := 10) (v := .int 0) (C := RX11) (T := TX11) (N := 25) hx hb hts inlX11 hown hG.1 hP 0 rfl rfl 8 (by decide) (hts (.fieldLink RX11 110 "SwornListsModel" "waiting" "I") w_350) (fun _ h9 => h9) rfl dX11_settles_1 ?_
  refine lv_if_le (tgt := 52) hx hb dX11_settles_4 (by decide) (fun c_4 => ?_) (fun c_4 => absurd (by decide) c_4)
  have hP9 := hP.sub (ws' := [(mo, eO 10 [.ref st, .ref mi, .ref mk, .long j3, .long j4, .int i5, .ref m6, .ref m7, .int 0, .ref m9, .ref m10, .int i11, .int i12, .int i13, .int i14, .ref m15, .ref m16, .ref m17, .ref m18, .ref m19, .ref m20, .ref m21, .ref m22, .ref m23, .ref m24])]) [0] rfl
  have hD9 := hD.sub (ws' := [(mo, eO 10 [.ref st, .ref mi, .ref mk, .long j3, .long j4, .int i5, .ref m6, .ref m7, .int 0, .ref m9, .ref m10, .int i11, .int i12, .int i13, .int i14, .ref m15, .ref m16, .ref m17, .ref m18, .ref m19, .ref m20, .ref m21, .ref m22, .ref m23, .ref m24])]) [0] (by decide) rfl
  exact W.vret hx hb hr (fun t ht hW => ⟨⟨(), rfl, (trivial), ⟨by rw [ht]; exact hP9, hD9⟩⟩, hS.F ht⟩) hS.2.2 dX11_settles_52
set_option maxHeartbeats 4000000 in
set_option maxRecDepth 100000 in
theorem c_reads0 (l : Launch) (G : gW) (sz : Nat) (mo : Nat) (st : Nat) (mi : Nat) (mk : Nat) (m6 : Nat) (m7 : Nat) (m9 : Nat) (m10 : Nat) (m15 : Nat) (m16 : Nat) (m17 : Nat) (m18 : Nat) (m19 : Nat) (m20 : Nat) (m21 : Nat) (m22 : Nat) (m23 : Nat) (m24 : Nat) (n : Int32) (hi : vp_in n 2246) (hz : st0 (Int32.toNatClampNeg n) = 0) : Met l yX11_reads (wsT yX11_reads cX11_reads 9 (some .int)) ({ frames := 1, cells := 0, slots := 0, locals := 21 }) (wP G [.ref mo, .int n] sz [(mo, eO 10 [.ref st, .ref mi, .ref mk, .long 0, .long 1, .int 0, .ref m6, .ref m7, .int 0, .ref m9, .ref m10, .int 0, .int 0, .int 0, .int 0, .ref m15, .ref m16, .ref m17, .ref m18, .ref m19, .ref m20, .ref m21, .ref m22, .ref m23, .ref m24]), (st, eI G 2246 st0)]) (va_Qi (fun (r : Int32) (_ : Unit) => r = 1) (wB G (va_A [(mo, eO 10 [.ref st, .ref mi, .ref mk, .long 0, .long 1, .int 0, .ref m6, .ref m7, .int 0, .ref m9, .ref m10, .int 0, .int 0, .int 0, .int 0, .ref m15, .ref m16, .ref m17, .ref m18, .ref m19, .ref m20, .ref m21, .ref m22, .ref m23, .ref m24]), (st, eI G 2246 st0)] sz) (fun _ : Unit => [(mo, eO 10 [.ref st, .ref mi, .ref mk, .long 0, .long 1, .int 0, .ref m6, .ref m7, .int 0, .ref m9, .ref m10, .int 0, .int 0, .int 0, .int 0, .ref m15, .ref m16, .ref m17, .ref m18, .ref m19, .ref m20, .ref m21, .ref m22, .ref m23, .ref m24]), (st, eI G 2246 st0)])) (va_A [(mo, eO 10 [.ref st, .ref mi, .ref mk, .long 0, .long 1, .int 0, .ref m6, .ref m7, .int 0, .ref m9, .ref m10, .int 0, .int 0, .int 0, .int 0, .ref m15, .ref m16, .ref m17, .ref m18, .ref m19, .ref m20, .ref m21, .ref m22, .ref m23, .ref m24]), (st, eI G 2246 st0)] sz)) 0 0 (va_A [(mo, eO 10 [.ref st, .ref mi, .ref mk, .long 0, .long 1, .int 0, .ref m6, .ref m7, .int 0, .ref m9, .ref m10, .int 0, .int 0, .int 0, .int 0, .ref m15, .ref m16, .ref m17, .ref m18, .ref m19, .ref m20, .ref m21, .ref m22, .ref m23, .ref m24]), (st, eI G 2246 st0)] sz) := by
  refine Met.ofW (cc := cX11_reads) (maxL := 9) (ret := (some .int)) (by decide) rfl ?_
  intro p e s m args below meth c s₁ B hml hv
  obtain ⟨rfl, hsz, hP, hG, hD0⟩ := hv
  have hx := B.exec
  have hb := B.bytes
  have hr := B.returns
  have hts := my_hts (atoms_spec (ws := wsT yX11_reads cX11_reads 9 (some .int)) B.pre)
  have hown : s.vm.findClass RX11 = some m.cls := findClass_of_methodNamed B.named
  have hlocks := B.notSynchronized
  subst hsz
  have hD := hD0.self (sz := s.heap.size)
  generalize hAe : va_A [(mo, eO 10 [.ref st, .ref mi, .ref mk, .long 0, .long 1, .int 0, .ref m6, .ref m7, .int 0, .ref m9, .ref m10, .int 0, .int 0, .int 0, .int 0, .ref m15, .ref m16, .ref m17, .ref m18, .ref m19, .ref m20, .ref m21, .ref m22, .ref m23, .ref m24]), (st, eI G 2246 st0)] s.heap.size = A at hD ⊢
  have hA : ∀ q : Nat, s.heap.size ≤ q → A q := fun q h => by rw [← hAe]; exact Or.inr h
  have hS : va_S A s.heap s.heap [] := va_S.rf
  have hP : va_P G.1 vwCl [(mo, eO 10 [.ref st, .ref mi, .ref mk, .long 0, .long 1, .int 0, .ref m6, .ref m7, .int 0, .ref m9, .ref m10, .int 0, .int 0, .int 0, .int 0, .ref m15, .ref m16, .ref m17, .ref m18, .ref m19, .ref m20, .ref m21, .ref m22, .ref m23, .ref m24]), (st, eI G 2246 st0)] s.heap := hP
  have hl := lv_entry ([.ref mo, .int n]) (n := 9) (Nat.le_of_ble_eq_true rfl)
  rw [lg_entry_eq]
  generalize (lg_sl ([.ref mo, .int n]) ++ List.replicate (9 - (lg_sl ([.ref mo, .int n])).length) Slot.unset).toArray = ls at hl ⊢
  have hl : lv_has ls 9 [(0, .ref mo), (1, .int n)] := hl
  refine lv_aload_n hx hb dX11_reads_0 rfl (lv_at hl 0 rfl) ?_
  refine va_get (D := G.1) (ci := 10) (v := .ref st) (C := RX11) (T := TX11) (N := 25) hx hb hts inlX11 hown hG.1 hP 0 rfl rfl 0 (by decide) (hts (.fieldLink RX11 7 "SwornListsModel" "st" "[I") w_112) (fun _ h9 => h9) rfl dX11_reads_1 ?_
  refine lv_iload_n hx hb dX11_reads_4 rfl (lv_at hl 1 rfl) ?_
  refine va_iald hx hb hG.1 hP 1 0 rfl rfl (hi) dX11_reads_5 ?_
  refine my_bei (v := 0) (hz) ?_
  refine lv_istore_n (lv' := [(2, .int 0), (0, .ref mo), (1, .int n)]) hx hb dX11_reads_6 rfl hl (by decide) rfl (fun ls hl => ?_)
  refine lv_aload_n hx hb dX11_reads_7 rfl (lv_at hl 1 rfl) ?_
  refine lv_iconst (v := 0) hx hb dX11_reads_8 (by decide) ?_
  refine va_put (D := G.1) (ci := 10) (v := .int 0) (ty := .int) (C := RX11) (T := TX11) (N := 25) hx hb hts inlX11 tyX11 tyX11_ok nmX11 hown hG.1 hP hD hS 0 rfl rfl 5 (by decide) (hts (.fieldLink RX11 106 "SwornListsModel" "steps" "I") w_349) (fun _ h9 => h9) rfl (by decide +kernel) rfl rfl (Nat.le_of_ble_eq_true rfl) dX11_reads_9 (fun H locs hP hD hS => ?_)
  have hP : va_P G.1 vwCl [(mo, eO 10 [.ref st, .ref mi, .ref mk, .long 0, .long 1, .int 0, .ref m6, .ref m7, .int 0, .ref m9, .ref m10, .int 0, .int 0, .int 0, .int 0, .ref m15, .ref m16, .ref m17, .ref m18, .ref m19, .ref m20, .ref m21, .ref m22, .ref m23, .ref m24]), (st, eI G 2246 st0)] H := hP
  have hD : va_D A [(mo, eO 10 [.ref st, .ref mi, .ref mk, .long 0, .long 1, .int 0, .ref m6, .ref m7, .int 0, .ref m9, .ref m10, .int 0, .int 0, .int 0, .int 0, .ref m15, .ref m16, .ref m17, .ref m18, .ref m19, .ref m20, .ref m21, .ref m22, .ref m23, .ref m24]), (st, eI G 2246 st0)] := hD
  refine lv_aload_n hx hb dX11_reads_12 rfl (lv_at hl 1 rfl) ?_
  refine lv_iconst (v := 0) hx hb dX11_reads_13 (by decide) ?_
  refine va_put (D := G.1) (ci := 10) (v := .int 0) (ty := .int) (C := RX11) (T := TX11) (N := 25) hx hb hts inlX11 tyX11 tyX11_ok nmX11 hown hG.1 hP hD hS 0 rfl rfl 8 (by decide) (hts (.fieldLink RX11 110 "SwornListsModel" "waiting" "I") w_350) (fun _ h9 => h9) rfl (by decide +kernel) rfl rfl (Nat.le_of_ble_eq_true rfl) dX11_reads_14 (fun H locs hP hD hS => ?_)
  have hP : va_P G.1 vwCl [(mo, eO 10 [.ref st, .ref mi, .ref mk, .long 0, .long 1, .int 0, .ref m6, .ref m7, .int 0, .ref m9, .ref m10, .int 0, .int 0, .int 0, .int 0, .ref m15, .ref m16, .ref m17, .ref m18, .ref m19, .ref m20, .ref m21, .ref m22, .ref m23, .ref m24]), (st, eI G 2246 st0)] H := hP
  have hD : va_D A [(mo, eO 10 [.ref st, .ref mi, .ref mk, .long 0, .long 1, .int 0, .ref m6, .ref m7, .int 0, .ref m9, .ref m10, .int 0, .int 0, .int 0, .int 0, .ref m15, .ref m16, .ref m17, .ref m18, .ref m19, .ref m20, .ref m21, .ref m22, .ref m23, .ref m24]), (st, eI G 2246 st0)] := hD
  refine lv_iconst (v := 0) hx hb dX11_reads_17 (by decide) ?_
  refine lv_istore_n (lv' := [(3, .int 0), (2, .int 0), (0, .ref mo), (1, .int n)]) hx hb dX11_reads_18 rfl hl (by decide) rfl (fun ls hl => ?_)
  refine lv_iconst (v := 0) hx hb dX11_reads_19 (by decide) ?_
  refine lv_istore (lv' := [(4, .int 0), (3, .int 0), (2, .int 0), (0, .ref mo), (1, .int n)]) hx hb dX11_reads_20 hl (by decide) rfl (fun ls hl => ?_)
  refine lv_iconst (v := 0) hx hb dX11_reads_22 (by decide) ?_
  refine lv_istore (lv' := [(5, .int 0), (4, .int 0), (3, .int 0), (2, .int 0), (0, .ref mo), (1, .int n)]) hx hb dX11_reads_23 hl (by decide) rfl (fun ls hl => ?_)
  refine lv_iload hx hb dX11_reads_25 (lv_at hl 0 rfl) ?_
  refine lv_iload_n hx hb dX11_reads_27 rfl (lv_at hl 3 rfl) ?_
  refine lv_icmp_ge (tgt := 375) hx hb dX11_reads_28 (by decide) (fun c_28 => ?_) (fun c_28 => absurd (by decide) c_28)
  refine lv_aload_n hx hb dX11_reads_375 rfl (lv_at hl 4 rfl) ?_
  refine lv_iconst (v := 1) hx hb dX11_reads_376 (by decide) ?_
  have hPc := hP.sub (ws' := [(mo, eO 10 [.ref st, .ref mi, .ref mk, .long 0, .long 1, .int 0, .ref m6, .ref m7, .int 0, .ref m9, .ref m10, .int 0, .int 0, .int 0, .int 0, .ref m15, .ref m16, .ref m17, .ref m18, .ref m19, .ref m20, .ref m21, .ref m22, .ref m23, .ref m24])]) [0] rfl
  have hDc := hD.sub (ws' := [(mo, eO 10 [.ref st, .ref mi, .ref mk, .long 0, .long 1, .int 0, .ref m6, .ref m7, .int 0, .ref m9, .ref m10, .int 0, .int 0, .int 0, .int 0, .ref m15, .ref m16, .ref m17, .ref m18, .ref m19, .ref m20, .ref m21, .ref m22, .ref m23, .ref m24])]) [0] (by decide) rfl
  have hFc := va_free (wc := [(mo, eO 10 [.ref st, .ref mi, .ref mk, .long 0, .long 1, .int 0, .ref m6, .ref m7, .int 0, .ref m9, .ref m10, .int 0, .int 0, .int 0, .int 0, .ref m15, .ref m16, .ref m17, .ref m18, .ref m19, .ref m20, .ref m21, .ref m22, .ref m23, .ref m24])]) hD hS hA [0] rfl
  refine va_callv (va_runV (As := [.int 1]) (rest := []) ⟨hx, hb, hml, hown, hts⟩ (c_settles0 l G H.size mo st mi mk m6 m7 m9 m10 m15 m16 m17 m18 m19 m20 m21 m22 m23 m24 1 0 1 0 0 0 0 0 ) (my_cwV hts ok_X11_settles w_353 rfl rfl ⟨Nat.le_of_ble_eq_true rfl, Nat.le_of_ble_eq_true rfl⟩) ⟨wP.blind, va_recv hG.1 hPc (ci := 10) (q0 := 0) rfl rfl, fun U hU hW => ⟨rfl, by rw [hU], by rw [hU]; exact hPc, kG.warm hW hG, hDc.weaken (fun _ _ _ _ => trivial)⟩⟩ rfl rfl hl.1 rfl (lv_room (Nat.le_of_ble_eq_true rfl)) dX11_reads_377 ⟨Nat.le_of_ble_eq_true rfl, Nat.le_of_ble_eq_true rfl⟩) hS (fun q _ h => hFc q h) hFc (fun u t H1 locs ht hvm hw hB hz1 hk1 hS => ?_)
  obtain ⟨hP1, hD1⟩ := hB
  rw [ht] at hP1
  try dsimp only at hw
  obtain ⟨hP, hD⟩ := va_join (wr := [(st, eI G 2246 st0)]) (w1 := [(mo, eO 10 [.ref st, .ref mi, .ref mk, .long 0, .long 1, .int 0, .ref m6, .ref m7, .int 0, .ref m9, .ref m10, .int 0, .int 0, .int 0, .int 0, .ref m15, .ref m16, .ref m17, .ref m18, .ref m19, .ref m20, .ref m21, .ref m22, .ref m23, .ref m24])]) hP hD [0] [1] rfl rfl (by decide) (by decide) hk1 hFc hP1 hD1
  generalize H1 = H at hP hS ⊢
  have hP : va_P G.1 vwCl [(st, eI G 2246 st0), (mo, eO 10 [.ref st, .ref mi, .ref mk, .long 0, .long 1, .int 0, .ref m6, .ref m7, .int 0, .ref m9, .ref m10, .int 0, .int 0, .int 0, .int 0, .ref m15, .ref m16, .ref m17, .ref m18, .ref m19, .ref m20, .ref m21, .ref m22, .ref m23, .ref m24])] H := hP
  have hD : va_D A [(st, eI G 2246 st0), (mo, eO 10 [.ref st, .ref mi, .ref mk, .long 0, .long 1, .int 0, .ref m6, .ref m7, .int 0, .ref m9, .ref m10, .int 0, .int 0, .int 0, .int 0, .ref m15, .ref m16, .ref m17, .ref m18, .ref m19, .ref m20, .ref m21, .ref m22, .ref m23, .ref m24])] := hD
  refine lv_iload hx hb dX11_reads_380 (lv_at hl 1 rfl) ?_
  refine lv_if_eq (tgt := 393) hx hb dX11_reads_382 (by decide) (fun c_382 => ?_) (fun c_382 => absurd (by decide) c_382)
  refine lv_bipush (v := 10) hx hb dX11_reads_393 (by decide) ?_
  refine lv_iload_n hx hb dX11_reads_395 rfl (lv_at hl 3 rfl) ?_
  refine lv_imul hx hb dX11_reads_396 ?_
  refine my_bei (v := 0) (by decide) ?_
  refine lv_iconst (v := 1) hx hb dX11_reads_397 (by decide) ?_
  refine lv_iadd hx hb dX11_reads_398 ?_
  refine my_bei (v := 1) (by decide) ?_
  have hP9 := hP.sub (ws' := [(mo, eO 10 [.ref st, .ref mi, .ref mk, .long 0, .long 1, .int 0, .ref m6, .ref m7, .int 0, .ref m9, .ref m10, .int 0, .int 0, .int 0, .int 0, .ref m15, .ref m16, .ref m17, .ref m18, .ref m19, .ref m20, .ref m21, .ref m22, .ref m23, .ref m24]), (st, eI G 2246 st0)]) [1, 0] rfl
  have hD9 := hD.sub (ws' := [(mo, eO 10 [.ref st, .ref mi, .ref mk, .long 0, .long 1, .int 0, .ref m6, .ref m7, .int 0, .ref m9, .ref m10, .int 0, .int 0, .int 0, .int 0, .ref m15, .ref m16, .ref m17, .ref m18, .ref m19, .ref m20, .ref m21, .ref m22, .ref m23, .ref m24]), (st, eI G 2246 st0)]) [1, 0] (by decide) rfl
  exact W.iret (v := 1) hx hb hr (fun t ht hW => ⟨⟨_, (), rfl, (rfl), ⟨by rw [ht]; exact hP9, hD9⟩⟩, hS.F ht⟩) hS.2.2 dX11_reads_399
set_option maxHeartbeats 4000000 in
set_option maxRecDepth 100000 in
theorem c_finds0 (l : Launch) (G : gW) (sz : Nat) (mo : Nat) (st : Nat) (mi : Nat) (mk : Nat) (m6 : Nat) (m7 : Nat) (m9 : Nat) (m10 : Nat) (m15 : Nat) (m16 : Nat) (m17 : Nat) (m18 : Nat) (m19 : Nat) (m20 : Nat) (m21 : Nat) (m22 : Nat) (m23 : Nat) (m24 : Nat)  : Met l yX11_finds (wsT yX11_finds cX11_finds 2 none) ({ frames := 0, cells := 0, slots := 0, locals := 0 }) (wP G [.ref mo] sz [(mo, eO 10 [.ref st, .ref mi, .ref mk, .long 0, .long 1, .int 0, .ref m6, .ref m7, .int 0, .ref m9, .ref m10, .int 0, .int 0, .int 0, .int 0, .ref m15, .ref m16, .ref m17, .ref m18, .ref m19, .ref m20, .ref m21, .ref m22, .ref m23, .ref m24]), (st, eI G 2246 st0)]) (va_Qv (fun _ : Unit => True) (wB G (va_A [(mo, eO 10 [.ref st, .ref mi, .ref mk, .long 0, .long 1, .int 0, .ref m6, .ref m7, .int 0, .ref m9, .ref m10, .int 0, .int 0, .int 0, .int 0, .ref m15, .ref m16, .ref m17, .ref m18, .ref m19, .ref m20, .ref m21, .ref m22, .ref m23, .ref m24]), (st, eI G 2246 st0)] sz) (fun _ : Unit => [(mo, eO 10 [.ref st, .ref mi, .ref mk, .long 0, .long 1, .int 0, .ref m6, .ref m7, .int 0, .ref m9, .ref m10, .int 0, .int 0, .int 1, .int 0, .ref m15, .ref m16, .ref m17, .ref m18, .ref m19, .ref m20, .ref m21, .ref m22, .ref m23, .ref m24]), (st, eI G 2246 st0)])) (va_A [(mo, eO 10 [.ref st, .ref mi, .ref mk, .long 0, .long 1, .int 0, .ref m6, .ref m7, .int 0, .ref m9, .ref m10, .int 0, .int 0, .int 0, .int 0, .ref m15, .ref m16, .ref m17, .ref m18, .ref m19, .ref m20, .ref m21, .ref m22, .ref m23, .ref m24]), (st, eI G 2246 st0)] sz)) 0 0 (va_A [(mo, eO 10 [.ref st, .ref mi, .ref mk, .long 0, .long 1, .int 0, .ref m6, .ref m7, .int 0, .ref m9, .ref m10, .int 0, .int 0, .int 0, .int 0, .ref m15, .ref m16, .ref m17, .ref m18, .ref m19, .ref m20, .ref m21, .ref m22, .ref m23, .ref m24]), (st, eI G 2246 st0)] sz) := by
  refine Met.ofW (cc := cX11_finds) (maxL := 2) (ret := none) (by decide) rfl ?_
  intro p e s m args below meth c s₁ B hml hv
  obtain ⟨rfl, hsz, hP, hG, hD0⟩ := hv
  have hx := B.exec
  have hb := B.bytes
  have hr := B.returns
  have hts := my_hts (atoms_spec (ws := wsT yX11_finds cX11_finds 2 none) B.pre)
  have hown : s.vm.findClass RX11 = some m.cls := findClass_of_methodNamed B.named
  have hlocks := B.notSynchronized
  subst hsz
  have hD := hD0.self (sz := s.heap.size)
  generalize hAe : va_A [(mo, eO 10 [.ref st, .ref mi, .ref mk, .long 0, .long 1, .int 0, .ref m6, .ref m7, .int 0, .ref m9, .ref m10, .int 0, .int 0, .int 0, .int 0, .ref m15, .ref m16, .ref m17, .ref m18, .ref m19, .ref m20, .ref m21, .ref m22, .ref m23, .ref m24]), (st, eI G 2246 st0)] s.heap.size = A at hD ⊢
  have hA : ∀ q : Nat, s.heap.size ≤ q → A q := fun q h => by rw [← hAe]; exact Or.inr h
  have hS : va_S A s.heap s.heap [] := va_S.rf
  have hP : va_P G.1 vwCl [(mo, eO 10 [.ref st, .ref mi, .ref mk, .long 0, .long 1, .int 0, .ref m6, .ref m7, .int 0, .ref m9, .ref m10, .int 0, .int 0, .int 0, .int 0, .ref m15, .ref m16, .ref m17, .ref m18, .ref m19, .ref m20, .ref m21, .ref m22, .ref m23, .ref m24]), (st, eI G 2246 st0)] s.heap := hP
  have hl := lv_entry ([.ref mo]) (n := 2) (Nat.le_of_ble_eq_true rfl)
  rw [lg_entry_eq]
  generalize (lg_sl ([.ref mo]) ++ List.replicate (2 - (lg_sl ([.ref mo])).length) Slot.unset).toArray = ls at hl ⊢
  have hl : lv_has ls 2 [(0, .ref mo)] := hl
  refine lv_aload_n hx hb dX11_finds_0 rfl (lv_at hl 0 rfl) ?_
  refine va_get (D := G.1) (ci := 10) (v := .int 0) (C := RX11) (T := TX11) (N := 25) hx hb hts inlX11 hown hG.1 hP 0 rfl rfl 13 (by decide) (hts (.fieldLink RX11 71 "SwornListsModel" "isReady" "Z") w_169) (fun _ h9 => h9) rfl dX11_finds_1 ?_
  refine lv_if_eq (tgt := 8) hx hb dX11_finds_4 (by decide) (fun c_4 => ?_) (fun c_4 => absurd (by decide) c_4)
  refine lv_aload_n hx hb dX11_finds_8 rfl (lv_at hl 0 rfl) ?_
  refine lv_iconst (v := 1) hx hb dX11_finds_9 (by decide) ?_
  refine va_put (D := G.1) (ci := 10) (v := .int 1) (ty := .boolean) (C := RX11) (T := TX11) (N := 25) hx hb hts inlX11 tyX11 tyX11_ok nmX11 hown hG.1 hP hD hS 0 rfl rfl 13 (by decide) (hts (.fieldLink RX11 71 "SwornListsModel" "isReady" "Z") w_169) (fun _ h9 => h9) rfl (by decide +kernel) rfl rfl (Nat.le_of_ble_eq_true rfl) dX11_finds_10 (fun H locs hP hD hS => ?_)
  have hP : va_P G.1 vwCl [(mo, eO 10 [.ref st, .ref mi, .ref mk, .long 0, .long 1, .int 0, .ref m6, .ref m7, .int 0, .ref m9, .ref m10, .int 0, .int 0, .int 1, .int 0, .ref m15, .ref m16, .ref m17, .ref m18, .ref m19, .ref m20, .ref m21, .ref m22, .ref m23, .ref m24]), (st, eI G 2246 st0)] H := hP
  have hD : va_D A [(mo, eO 10 [.ref st, .ref mi, .ref mk, .long 0, .long 1, .int 0, .ref m6, .ref m7, .int 0, .ref m9, .ref m10, .int 0, .int 0, .int 1, .int 0, .ref m15, .ref m16, .ref m17, .ref m18, .ref m19, .ref m20, .ref m21, .ref m22, .ref m23, .ref m24]), (st, eI G 2246 st0)] := hD
  refine lv_aload_n hx hb dX11_finds_13 rfl (lv_at hl 0 rfl) ?_
  refine lv_iconst (v := 0) hx hb dX11_finds_14 (by decide) ?_
  refine va_put (D := G.1) (ci := 10) (v := .int 0) (ty := .int) (C := RX11) (T := TX11) (N := 25) hx hb hts inlX11 tyX11 tyX11_ok nmX11 hown hG.1 hP hD hS 0 rfl rfl 14 (by decide) (hts (.fieldLink RX11 146 "SwornListsModel" "found" "I") w_527) (fun _ h9 => h9) rfl (by decide +kernel) rfl rfl (Nat.le_of_ble_eq_true rfl) dX11_finds_15 (fun H locs hP hD hS => ?_)
  have hP : va_P G.1 vwCl [(mo, eO 10 [.ref st, .ref mi, .ref mk, .long 0, .long 1, .int 0, .ref m6, .ref m7, .int 0, .ref m9, .ref m10, .int 0, .int 0, .int 1, .int 0, .ref m15, .ref m16, .ref m17, .ref m18, .ref m19, .ref m20, .ref m21, .ref m22, .ref m23, .ref m24]), (st, eI G 2246 st0)] H := hP
  have hD : va_D A [(mo, eO 10 [.ref st, .ref mi, .ref mk, .long 0, .long 1, .int 0, .ref m6, .ref m7, .int 0, .ref m9, .ref m10, .int 0, .int 0, .int 1, .int 0, .ref m15, .ref m16, .ref m17, .ref m18, .ref m19, .ref m20, .ref m21, .ref m22, .ref m23, .ref m24]), (st, eI G 2246 st0)] := hD
  refine lv_iconst (v := 0) hx hb dX11_finds_18 (by decide) ?_
  refine lv_istore_n (lv' := [(1, .int 0), (0, .ref mo)]) hx hb dX11_finds_19 rfl hl (by decide) rfl (fun ls hl => ?_)
  refine lv_iload_n hx hb dX11_finds_20 rfl (lv_at hl 0 rfl) ?_
  refine lv_aload_n hx hb dX11_finds_21 rfl (lv_at hl 1 rfl) ?_
  refine va_get (D := G.1) (ci := 10) (v := .ref st) (C := RX11) (T := TX11) (N := 25) hx hb hts inlX11 hown hG.1 hP 0 rfl rfl 0 (by decide) (hts (.fieldLink RX11 7 "SwornListsModel" "st" "[I") w_112) (fun _ h9 => h9) rfl dX11_finds_22 ?_
  refine lv_iconst (v := 4) hx hb dX11_finds_25 (by decide) ?_
  refine va_iald hx hb hG.1 hP 1 0 rfl rfl (by unfold vp_in; decide) dX11_finds_26 ?_
  refine my_bei (v := 0) (by first | rfl | decide) ?_
  refine lv_icmp_ge (tgt := 51) hx hb dX11_finds_27 (by decide) (fun c_27 => ?_) (fun c_27 => absurd (by decide) c_27)
  have hP9 := hP.sub (ws' := [(mo, eO 10 [.ref st, .ref mi, .ref mk, .long 0, .long 1, .int 0, .ref m6, .ref m7, .int 0, .ref m9, .ref m10, .int 0, .int 0, .int 1, .int 0, .ref m15, .ref m16, .ref m17, .ref m18, .ref m19, .ref m20, .ref m21, .ref m22, .ref m23, .ref m24]), (st, eI G 2246 st0)]) [0, 1] rfl
  have hD9 := hD.sub (ws' := [(mo, eO 10 [.ref st, .ref mi, .ref mk, .long 0, .long 1, .int 0, .ref m6, .ref m7, .int 0, .ref m9, .ref m10, .int 0, .int 0, .int 1, .int 0, .ref m15, .ref m16, .ref m17, .ref m18, .ref m19, .ref m20, .ref m21, .ref m22, .ref m23, .ref m24]), (st, eI G 2246 st0)]) [0, 1] (by decide) rfl
  exact W.vret hx hb hr (fun t ht hW => ⟨⟨(), rfl, (trivial), ⟨by rw [ht]; exact hP9, hD9⟩⟩, hS.F ht⟩) hS.2.2 dX11_finds_51
set_option maxHeartbeats 4000000 in
set_option maxRecDepth 100000 in
theorem c_finds1 (l : Launch) (G : gW) (sz : Nat) (mo : Nat) (st : Nat) (mi : Nat) (mk : Nat) (m6 : Nat) (m7 : Nat) (m9 : Nat) (m10 : Nat) (m15 : Nat) (m16 : Nat) (m17 : Nat) (m18 : Nat) (m19 : Nat) (m20 : Nat) (m21 : Nat) (m22 : Nat) (m23 : Nat) (m24 : Nat)  : Met l yX11_finds (wsT yX11_finds cX11_finds 2 none) ({ frames := 0, cells := 0, slots := 0, locals := 0 }) (wP G [.ref mo] sz [(mo, eO 10 [.ref st, .ref mi, .ref mk, .long 0, .long 1, .int 0, .ref m6, .ref m7, .int 0, .ref m9, .ref m10, .int 0, .int 0, .int 1, .int 0, .ref m15, .ref m16, .ref m17, .ref m18, .ref m19, .ref m20, .ref m21, .ref m22, .ref m23, .ref m24]), (st, eI G 2246 st0)]) (va_Qv (fun _ : Unit => True) (wB G (va_A [(mo, eO 10 [.ref st, .ref mi, .ref mk, .long 0, .long 1, .int 0, .ref m6, .ref m7, .int 0, .ref m9, .ref m10, .int 0, .int 0, .int 1, .int 0, .ref m15, .ref m16, .ref m17, .ref m18, .ref m19, .ref m20, .ref m21, .ref m22, .ref m23, .ref m24]), (st, eI G 2246 st0)] sz) (fun _ : Unit => [(mo, eO 10 [.ref st, .ref mi, .ref mk, .long 0, .long 1, .int 0, .ref m6, .ref m7, .int 0, .ref m9, .ref m10, .int 0, .int 0, .int 1, .int 0, .ref m15, .ref m16, .ref m17, .ref m18, .ref m19, .ref m20, .ref m21, .ref m22, .ref m23, .ref m24]), (st, eI G 2246 st0)])) (va_A [(mo, eO 10 [.ref st, .ref mi, .ref mk, .long 0, .long 1, .int 0, .ref m6, .ref m7, .int 0, .ref m9, .ref m10, .int 0, .int 0, .int 1, .int 0, .ref m15, .ref m16, .ref m17, .ref m18, .ref m19, .ref m20, .ref m21, .ref m22, .ref m23, .ref m24]), (st, eI G 2246 st0)] sz)) 0 0 (va_A [(mo, eO 10 [.ref st, .ref mi, .ref mk, .long 0, .long 1, .int 0, .ref m6, .ref m7, .int 0, .ref m9, .ref m10, .int 0, .int 0, .int 1, .int 0, .ref m15, .ref m16, .ref m17, .ref m18, .ref m19, .ref m20, .ref m21, .ref m22, .ref m23, .ref m24]), (st, eI G 2246 st0)] sz) := by
  refine Met.ofW (cc := cX11_finds) (maxL := 2) (ret := none) (by decide) rfl ?_
  intro p e s m args below meth c s₁ B hml hv
  obtain ⟨rfl, hsz, hP, hG, hD0⟩ := hv
  have hx := B.exec
  have hb := B.bytes
  have hr := B.returns
  have hts := my_hts (atoms_spec (ws := wsT yX11_finds cX11_finds 2 none) B.pre)
  have hown : s.vm.findClass RX11 = some m.cls := findClass_of_methodNamed B.named
  have hlocks := B.notSynchronized
  subst hsz
  have hD := hD0.self (sz := s.heap.size)
  generalize hAe : va_A [(mo, eO 10 [.ref st, .ref mi, .ref mk, .long 0, .long 1, .int 0, .ref m6, .ref m7, .int 0, .ref m9, .ref m10, .int 0, .int 0, .int 1, .int 0, .ref m15, .ref m16, .ref m17, .ref m18, .ref m19, .ref m20, .ref m21, .ref m22, .ref m23, .ref m24]), (st, eI G 2246 st0)] s.heap.size = A at hD ⊢
  have hA : ∀ q : Nat, s.heap.size ≤ q → A q := fun q h => by rw [← hAe]; exact Or.inr h
  have hS : va_S A s.heap s.heap [] := va_S.rf
  have hP : va_P G.1 vwCl [(mo, eO 10 [.ref st, .ref mi, .ref mk, .long 0, .long 1, .int 0, .ref m6, .ref m7, .int 0, .ref m9, .ref m10, .int 0, .int 0, .int 1, .int 0, .ref m15, .ref m16, .ref m17, .ref m18, .ref m19, .ref m20, .ref m21, .ref m22, .ref m23, .ref m24]), (st, eI G 2246 st0)] s.heap := hP
  have hl := lv_entry ([.ref mo]) (n := 2) (Nat.le_of_ble_eq_true rfl)
  rw [lg_entry_eq]
  generalize (lg_sl ([.ref mo]) ++ List.replicate (2 - (lg_sl ([.ref mo])).length) Slot.unset).toArray = ls at hl ⊢
  have hl : lv_has ls 2 [(0, .ref mo)] := hl
  refine lv_aload_n hx hb dX11_finds_0 rfl (lv_at hl 0 rfl) ?_
  refine va_get (D := G.1) (ci := 10) (v := .int 1) (C := RX11) (T := TX11) (N := 25) hx hb hts inlX11 hown hG.1 hP 0 rfl rfl 13 (by decide) (hts (.fieldLink RX11 71 "SwornListsModel" "isReady" "Z") w_169) (fun _ h9 => h9) rfl dX11_finds_1 ?_
  refine lv_if_eq (tgt := 8) hx hb dX11_finds_4 (by decide) (fun c_4 => absurd c_4 (by decide)) (fun c_4 => ?_)
  have hP9 := hP.sub (ws' := [(mo, eO 10 [.ref st, .ref mi, .ref mk, .long 0, .long 1, .int 0, .ref m6, .ref m7, .int 0, .ref m9, .ref m10, .int 0, .int 0, .int 1, .int 0, .ref m15, .ref m16, .ref m17, .ref m18, .ref m19, .ref m20, .ref m21, .ref m22, .ref m23, .ref m24]), (st, eI G 2246 st0)]) [0, 1] rfl
  have hD9 := hD.sub (ws' := [(mo, eO 10 [.ref st, .ref mi, .ref mk, .long 0, .long 1, .int 0, .ref m6, .ref m7, .int 0, .ref m9, .ref m10, .int 0, .int 0, .int 1, .int 0, .ref m15, .ref m16, .ref m17, .ref m18, .ref m19, .ref m20, .ref m21, .ref m22, .ref m23, .ref m24]), (st, eI G 2246 st0)]) [0, 1] (by decide) rfl
  exact W.vret hx hb hr (fun t ht hW => ⟨⟨(), rfl, (trivial), ⟨by rw [ht]; exact hP9, hD9⟩⟩, hS.F ht⟩) hS.2.2 dX11_finds_7
set_option maxHeartbeats 4000000 in
set_option maxRecDepth 100000 in
theorem c_isTrial0 (l : Launch) (G : gW) (sz : Nat) (mo : Nat) (st : Nat) (mi : Nat) (mk : Nat) (m6 : Nat) (m7 : Nat) (m9 : Nat) (m10 : Nat) (m15 : Nat) (m16 : Nat) (m17 : Nat) (m18 : Nat) (m19 : Nat) (m20 : Nat) (m21 : Nat) (m22 : Nat) (m23 : Nat) (m24 : Nat) (a1 : Int32)  : Met l yX11_isTrial (wsT yX11_isTrial cX11_isTrial 2 (some .boolean)) ({ frames := 2, cells := 0, slots := 0, locals := 47 }) (wP G [.ref mo, .int a1] sz [(mo, eO 10 [.ref st, .ref mi, .ref mk, .long 0, .long 1, .int 0, .ref m6, .ref m7, .int 0, .ref m9, .ref m10, .int 0, .int 0, .int 0, .int 0, .ref m15, .ref m16, .ref m17, .ref m18, .ref m19, .ref m20, .ref m21, .ref m22, .ref m23, .ref m24]), (st, eI G 2246 st0)]) (va_Qi (fun (r : Int32) (_ : Unit) => r = 0) (wB G (va_A [(mo, eO 10 [.ref st, .ref mi, .ref mk, .long 0, .long 1, .int 0, .ref m6, .ref m7, .int 0, .ref m9, .ref m10, .int 0, .int 0, .int 0, .int 0, .ref m15, .ref m16, .ref m17, .ref m18, .ref m19, .ref m20, .ref m21, .ref m22, .ref m23, .ref m24]), (st, eI G 2246 st0)] sz) (fun _ : Unit => [(mo, eO 10 [.ref st, .ref mi, .ref mk, .long 0, .long 1, .int 0, .ref m6, .ref m7, .int 0, .ref m9, .ref m10, .int 0, .int 0, .int 1, .int 0, .ref m15, .ref m16, .ref m17, .ref m18, .ref m19, .ref m20, .ref m21, .ref m22, .ref m23, .ref m24]), (st, eI G 2246 st0)])) (va_A [(mo, eO 10 [.ref st, .ref mi, .ref mk, .long 0, .long 1, .int 0, .ref m6, .ref m7, .int 0, .ref m9, .ref m10, .int 0, .int 0, .int 0, .int 0, .ref m15, .ref m16, .ref m17, .ref m18, .ref m19, .ref m20, .ref m21, .ref m22, .ref m23, .ref m24]), (st, eI G 2246 st0)] sz)) 0 0 (va_A [(mo, eO 10 [.ref st, .ref mi, .ref mk, .long 0, .long 1, .int 0, .ref m6, .ref m7, .int 0, .ref m9, .ref m10, .int 0, .int 0, .int 0, .int 0, .ref m15, .ref m16, .ref m17, .ref m18, .ref m19, .ref m20, .ref m21, .ref m22, .ref m23, .ref m24]), (st, eI G 2246 st0)] sz) := by
  refine Met.ofW (cc := cX11_isTrial) (maxL := 2) (ret := (some .boolean)) (by decide) rfl ?_
  intro p e s m args below meth c s₁ B hml hv
  obtain ⟨rfl, hsz, hP, hG, hD0⟩ := hv
  have hx := B.exec
  have hb := B.bytes
  have hr := B.returns
  have hts := my_hts (atoms_spec (ws := wsT yX11_isTrial cX11_isTrial 2 (some .boolean)) B.pre)
  have hown : s.vm.findClass RX11 = some m.cls := findClass_of_methodNamed B.named
  have hlocks := B.notSynchronized
  subst hsz
  have hD := hD0.self (sz := s.heap.size)
  generalize hAe : va_A [(mo, eO 10 [.ref st, .ref mi, .ref mk, .long 0, .long 1, .int 0, .ref m6, .ref m7, .int 0, .ref m9, .ref m10, .int 0, .int 0, .int 0, .int 0, .ref m15, .ref m16, .ref m17, .ref m18, .ref m19, .ref m20, .ref m21, .ref m22, .ref m23, .ref m24]), (st, eI G 2246 st0)] s.heap.size = A at hD ⊢
  have hA : ∀ q : Nat, s.heap.size ≤ q → A q := fun q h => by rw [← hAe]; exact Or.inr h
  have hS : va_S A s.heap s.heap [] := va_S.rf
  have hP : va_P G.1 vwCl [(mo, eO 10 [.ref st, .ref mi, .ref mk, .long 0, .long 1, .int 0, .ref m6, .ref m7, .int 0, .ref m9, .ref m10, .int 0, .int 0, .int 0, .int 0, .ref m15, .ref m16, .ref m17, .ref m18, .ref m19, .ref m20, .ref m21, .ref m22, .ref m23, .ref m24]), (st, eI G 2246 st0)] s.heap := hP
  have hl := lv_entry ([.ref mo, .int a1]) (n := 2) (Nat.le_of_ble_eq_true rfl)
  rw [lg_entry_eq]
  generalize (lg_sl ([.ref mo, .int a1]) ++ List.replicate (2 - (lg_sl ([.ref mo, .int a1])).length) Slot.unset).toArray = ls at hl ⊢
  have hl : lv_has ls 2 [(0, .ref mo), (1, .int a1)] := hl
  refine lv_aload_n hx hb dX11_isTrial_0 rfl (lv_at hl 0 rfl) ?_
  have hPc := hP.sub (ws' := [(mo, eO 10 [.ref st, .ref mi, .ref mk, .long 0, .long 1, .int 0, .ref m6, .ref m7, .int 0, .ref m9, .ref m10, .int 0, .int 0, .int 0, .int 0, .ref m15, .ref m16, .ref m17, .ref m18, .ref m19, .ref m20, .ref m21, .ref m22, .ref m23, .ref m24]), (st, eI G 2246 st0)]) [0, 1] rfl
  have hDc := hD.sub (ws' := [(mo, eO 10 [.ref st, .ref mi, .ref mk, .long 0, .long 1, .int 0, .ref m6, .ref m7, .int 0, .ref m9, .ref m10, .int 0, .int 0, .int 0, .int 0, .ref m15, .ref m16, .ref m17, .ref m18, .ref m19, .ref m20, .ref m21, .ref m22, .ref m23, .ref m24]), (st, eI G 2246 st0)]) [0, 1] (by decide) rfl
  have hFc := va_free (wc := [(mo, eO 10 [.ref st, .ref mi, .ref mk, .long 0, .long 1, .int 0, .ref m6, .ref m7, .int 0, .ref m9, .ref m10, .int 0, .int 0, .int 0, .int 0, .ref m15, .ref m16, .ref m17, .ref m18, .ref m19, .ref m20, .ref m21, .ref m22, .ref m23, .ref m24]), (st, eI G 2246 st0)]) hD hS hA [0, 1] rfl
  refine va_callv (va_runV (As := []) (rest := []) ⟨hx, hb, hml, hown, hts⟩ (c_finds0 l G s.heap.size mo st mi mk m6 m7 m9 m10 m15 m16 m17 m18 m19 m20 m21 m22 m23 m24 ) (my_cwV hts ok_X11_finds w_523 rfl rfl ⟨Nat.le_of_ble_eq_true rfl, Nat.le_of_ble_eq_true rfl⟩) ⟨wP.blind, va_recv hG.1 hPc (ci := 10) (q0 := 0) rfl rfl, fun U hU hW => ⟨rfl, by rw [hU], by rw [hU]; exact hPc, kG.warm hW hG, hDc.weaken (fun _ _ _ _ => trivial)⟩⟩ rfl rfl hl.1 rfl (lv_room (Nat.le_of_ble_eq_true rfl)) dX11_isTrial_1 ⟨Nat.le_of_ble_eq_true rfl, Nat.le_of_ble_eq_true rfl⟩) hS (fun q _ h => hFc q h) hFc (fun u t H1 locs ht hvm hw hB hz1 hk1 hS => ?_)
  obtain ⟨hP1, hD1⟩ := hB
  rw [ht] at hP1
  try dsimp only at hw
  obtain ⟨hP, hD⟩ := va_join (wr := []) (w1 := [(mo, eO 10 [.ref st, .ref mi, .ref mk, .long 0, .long 1, .int 0, .ref m6, .ref m7, .int 0, .ref m9, .ref m10, .int 0, .int 0, .int 1, .int 0, .ref m15, .ref m16, .ref m17, .ref m18, .ref m19, .ref m20, .ref m21, .ref m22, .ref m23, .ref m24]), (st, eI G 2246 st0)]) hP hD [0, 1] [] rfl rfl (by decide) (by decide) hk1 hFc hP1 hD1
  generalize H1 = H at hP hS ⊢
  have hP : va_P G.1 vwCl [(mo, eO 10 [.ref st, .ref mi, .ref mk, .long 0, .long 1, .int 0, .ref m6, .ref m7, .int 0, .ref m9, .ref m10, .int 0, .int 0, .int 1, .int 0, .ref m15, .ref m16, .ref m17, .ref m18, .ref m19, .ref m20, .ref m21, .ref m22, .ref m23, .ref m24]), (st, eI G 2246 st0)] H := hP
  have hD : va_D A [(mo, eO 10 [.ref st, .ref mi, .ref mk, .long 0, .long 1, .int 0, .ref m6, .ref m7, .int 0, .ref m9, .ref m10, .int 0, .int 0, .int 1, .int 0, .ref m15, .ref m16, .ref m17, .ref m18, .ref m19, .ref m20, .ref m21, .ref m22, .ref m23, .ref m24]), (st, eI G 2246 st0)] := hD
  refine lv_aload_n hx hb dX11_isTrial_4 rfl (lv_at hl 0 rfl) ?_
  refine lv_iconst (v := 4) hx hb dX11_isTrial_5 (by decide) ?_
  refine lv_iload_n hx hb dX11_isTrial_6 rfl (lv_at hl 1 rfl) ?_
  have hPc := hP.sub (ws' := [(mo, eO 10 [.ref st, .ref mi, .ref mk, .long 0, .long 1, .int 0, .ref m6, .ref m7, .int 0, .ref m9, .ref m10, .int 0, .int 0, .int 1, .int 0, .ref m15, .ref m16, .ref m17, .ref m18, .ref m19, .ref m20, .ref m21, .ref m22, .ref m23, .ref m24]), (st, eI G 2246 st0)]) [0, 1] rfl
  refine rd_calli (va_runV (As := [.int 4, .int a1]) (rest := []) ⟨hx, hb, hml, hown, hts⟩ (c_is0 l G mo st mi mk m6 m7 m9 m10 m15 m16 m17 m18 m19 m20 m21 m22 m23 m24 4 a1 0 1 0 0 0 0 1 0 (by unfold vp_in; decide) (by decide)) (my_cwV hts ok_X11_is w_186 rfl rfl ⟨Nat.le_of_ble_eq_true rfl, Nat.le_of_ble_eq_true rfl⟩) ⟨rP.blind, va_recv hG.1 hPc (ci := 10) (q0 := 0) rfl rfl, fun U hU hW => ⟨rfl, by rw [hU]; exact hPc, kG.warm hW hG⟩⟩ rfl rfl hl.1 rfl (lv_room (Nat.le_of_ble_eq_true rfl)) dX11_isTrial_7 ⟨Nat.le_of_ble_eq_true rfl, Nat.le_of_ble_eq_true rfl⟩) (fun r hr9 => ?_)
  subst hr9
  have hP9 := hP.sub (ws' := [(mo, eO 10 [.ref st, .ref mi, .ref mk, .long 0, .long 1, .int 0, .ref m6, .ref m7, .int 0, .ref m9, .ref m10, .int 0, .int 0, .int 1, .int 0, .ref m15, .ref m16, .ref m17, .ref m18, .ref m19, .ref m20, .ref m21, .ref m22, .ref m23, .ref m24]), (st, eI G 2246 st0)]) [0, 1] rfl
  have hD9 := hD.sub (ws' := [(mo, eO 10 [.ref st, .ref mi, .ref mk, .long 0, .long 1, .int 0, .ref m6, .ref m7, .int 0, .ref m9, .ref m10, .int 0, .int 0, .int 1, .int 0, .ref m15, .ref m16, .ref m17, .ref m18, .ref m19, .ref m20, .ref m21, .ref m22, .ref m23, .ref m24]), (st, eI G 2246 st0)]) [0, 1] (by decide) rfl
  exact W.zret (v := 0) hx hb hr (rfl) (fun t ht hW => ⟨⟨_, (), rfl, (rfl), ⟨by rw [ht]; exact hP9, hD9⟩⟩, hS.F ht⟩) hS.2.2 dX11_isTrial_10
set_option maxHeartbeats 4000000 in
set_option maxRecDepth 100000 in
theorem c_countOf0 (l : Launch) (G : gW) (sz : Nat) (mo : Nat) (st : Nat) (mi : Nat) (mk : Nat) (m6 : Nat) (m7 : Nat) (m9 : Nat) (m10 : Nat) (m15 : Nat) (m16 : Nat) (m17 : Nat) (m18 : Nat) (m19 : Nat) (m20 : Nat) (m21 : Nat) (m22 : Nat) (m23 : Nat) (m24 : Nat) (a1 : Int32) (h5 : inB 0 a1 5 = true) : Met l yX11_countOf (wsT yX11_countOf cX11_countOf 4 (some .int)) ({ frames := 1, cells := 0, slots := 0, locals := 21 }) (wP G [.ref mo, .int a1] sz [(mo, eO 10 [.ref st, .ref mi, .ref mk, .long 0, .long 1, .int 0, .ref m6, .ref m7, .int 0, .ref m9, .ref m10, .int 0, .int 0, .int 0, .int 0, .ref m15, .ref m16, .ref m17, .ref m18, .ref m19, .ref m20, .ref m21, .ref m22, .ref m23, .ref m24]), (st, eI G 2246 st0)]) (va_Qi (fun (r : Int32) (_ : Unit) => r = 0) (wB G (va_A [(mo, eO 10 [.ref st, .ref mi, .ref mk, .long 0, .long 1, .int 0, .ref m6, .ref m7, .int 0, .ref m9, .ref m10, .int 0, .int 0, .int 0, .int 0, .ref m15, .ref m16, .ref m17, .ref m18, .ref m19, .ref m20, .ref m21, .ref m22, .ref m23, .ref m24]), (st, eI G 2246 st0)] sz) (fun _ : Unit => [(mo, eO 10 [.ref st, .ref mi, .ref mk, .long 0, .long 1, .int 0, .ref m6, .ref m7, .int 0, .ref m9, .ref m10, .int 0, .int 0, .int 1, .int 0, .ref m15, .ref m16, .ref m17, .ref m18, .ref m19, .ref m20, .ref m21, .ref m22, .ref m23, .ref m24]), (st, eI G 2246 st0)])) (va_A [(mo, eO 10 [.ref st, .ref mi, .ref mk, .long 0, .long 1, .int 0, .ref m6, .ref m7, .int 0, .ref m9, .ref m10, .int 0, .int 0, .int 0, .int 0, .ref m15, .ref m16, .ref m17, .ref m18, .ref m19, .ref m20, .ref m21, .ref m22, .ref m23, .ref m24]), (st, eI G 2246 st0)] sz)) 0 0 (va_A [(mo, eO 10 [.ref st, .ref mi, .ref mk, .long 0, .long 1, .int 0, .ref m6, .ref m7, .int 0, .ref m9, .ref m10, .int 0, .int 0, .int 0, .int 0, .ref m15, .ref m16, .ref m17, .ref m18, .ref m19, .ref m20, .ref m21, .ref m22, .ref m23, .ref m24]), (st, eI G 2246 st0)] sz) := by
  refine Met.ofW (cc := cX11_countOf) (maxL := 4) (ret := (some .int)) (by decide) rfl ?_
  intro p e s m args below meth c s₁ B hml hv
  obtain ⟨rfl, hsz, hP, hG, hD0⟩ := hv
  have hx := B.exec
  have hb := B.bytes
  have hr := B.returns
  have hts := my_hts (atoms_spec (ws := wsT yX11_countOf cX11_countOf 4 (some .int)) B.pre)
  have hown : s.vm.findClass RX11 = some m.cls := findClass_of_methodNamed B.named
  have hlocks := B.notSynchronized
  subst hsz
  have hD := hD0.self (sz := s.heap.size)
  generalize hAe : va_A [(mo, eO 10 [.ref st, .ref mi, .ref mk, .long 0, .long 1, .int 0, .ref m6, .ref m7, .int 0, .ref m9, .ref m10, .int 0, .int 0, .int 0, .int 0, .ref m15, .ref m16, .ref m17, .ref m18, .ref m19, .ref m20, .ref m21, .ref m22, .ref m23, .ref m24]), (st, eI G 2246 st0)] s.heap.size = A at hD ⊢
  have hA : ∀ q : Nat, s.heap.size ≤ q → A q := fun q h => by rw [← hAe]; exact Or.inr h
  have hS : va_S A s.heap s.heap [] := va_S.rf
  have hP : va_P G.1 vwCl [(mo, eO 10 [.ref st, .ref mi, .ref mk, .long 0, .long 1, .int 0, .ref m6, .ref m7, .int 0, .ref m9, .ref m10, .int 0, .int 0, .int 0, .int 0, .ref m15, .ref m16, .ref m17, .ref m18, .ref m19, .ref m20, .ref m21, .ref m22, .ref m23, .ref m24]), (st, eI G 2246 st0)] s.heap := hP
  have hl := lv_entry ([.ref mo, .int a1]) (n := 4) (Nat.le_of_ble_eq_true rfl)
  rw [lg_entry_eq]
  generalize (lg_sl ([.ref mo, .int a1]) ++ List.replicate (4 - (lg_sl ([.ref mo, .int a1])).length) Slot.unset).toArray = ls at hl ⊢
  have hl : lv_has ls 4 [(0, .ref mo), (1, .int a1)] := hl
  refine lv_aload_n hx hb dX11_countOf_0 rfl (lv_at hl 0 rfl) ?_
  have hPc := hP.sub (ws' := [(mo, eO 10 [.ref st, .ref mi, .ref mk, .long 0, .long 1, .int 0, .ref m6, .ref m7, .int 0, .ref m9, .ref m10, .int 0, .int 0, .int 0, .int 0, .ref m15, .ref m16, .ref m17, .ref m18, .ref m19, .ref m20, .ref m21, .ref m22, .ref m23, .ref m24]), (st, eI G 2246 st0)]) [0, 1] rfl
  have hDc := hD.sub (ws' := [(mo, eO 10 [.ref st, .ref mi, .ref mk, .long 0, .long 1, .int 0, .ref m6, .ref m7, .int 0, .ref m9, .ref m10, .int 0, .int 0, .int 0, .int 0, .ref m15, .ref m16, .ref m17, .ref m18, .ref m19, .ref m20, .ref m21, .ref m22, .ref m23, .ref m24]), (st, eI G 2246 st0)]) [0, 1] (by decide) rfl
  have hFc := va_free (wc := [(mo, eO 10 [.ref st, .ref mi, .ref mk, .long 0, .long 1, .int 0, .ref m6, .ref m7, .int 0, .ref m9, .ref m10, .int 0, .int 0, .int 0, .int 0, .ref m15, .ref m16, .ref m17, .ref m18, .ref m19, .ref m20, .ref m21, .ref m22, .ref m23, .ref m24]), (st, eI G 2246 st0)]) hD hS hA [0, 1] rfl
  refine va_callv (va_runV (As := []) (rest := []) ⟨hx, hb, hml, hown, hts⟩ (c_finds0 l G s.heap.size mo st mi mk m6 m7 m9 m10 m15 m16 m17 m18 m19 m20 m21 m22 m23 m24 ) (my_cwV hts ok_X11_finds w_523 rfl rfl ⟨Nat.le_of_ble_eq_true rfl, Nat.le_of_ble_eq_true rfl⟩) ⟨wP.blind, va_recv hG.1 hPc (ci := 10) (q0 := 0) rfl rfl, fun U hU hW => ⟨rfl, by rw [hU], by rw [hU]; exact hPc, kG.warm hW hG, hDc.weaken (fun _ _ _ _ => trivial)⟩⟩ rfl rfl hl.1 rfl (lv_room (Nat.le_of_ble_eq_true rfl)) dX11_countOf_1 ⟨Nat.le_of_ble_eq_true rfl, Nat.le_of_ble_eq_true rfl⟩) hS (fun q _ h => hFc q h) hFc (fun u t H1 locs ht hvm hw hB hz1 hk1 hS => ?_)
  obtain ⟨hP1, hD1⟩ := hB
  rw [ht] at hP1
  try dsimp only at hw
  obtain ⟨hP, hD⟩ := va_join (wr := []) (w1 := [(mo, eO 10 [.ref st, .ref mi, .ref mk, .long 0, .long 1, .int 0, .ref m6, .ref m7, .int 0, .ref m9, .ref m10, .int 0, .int 0, .int 1, .int 0, .ref m15, .ref m16, .ref m17, .ref m18, .ref m19, .ref m20, .ref m21, .ref m22, .ref m23, .ref m24]), (st, eI G 2246 st0)]) hP hD [0, 1] [] rfl rfl (by decide) (by decide) hk1 hFc hP1 hD1
  generalize H1 = H at hP hS ⊢
  have hP : va_P G.1 vwCl [(mo, eO 10 [.ref st, .ref mi, .ref mk, .long 0, .long 1, .int 0, .ref m6, .ref m7, .int 0, .ref m9, .ref m10, .int 0, .int 0, .int 1, .int 0, .ref m15, .ref m16, .ref m17, .ref m18, .ref m19, .ref m20, .ref m21, .ref m22, .ref m23, .ref m24]), (st, eI G 2246 st0)] H := hP
  have hD : va_D A [(mo, eO 10 [.ref st, .ref mi, .ref mk, .long 0, .long 1, .int 0, .ref m6, .ref m7, .int 0, .ref m9, .ref m10, .int 0, .int 0, .int 1, .int 0, .ref m15, .ref m16, .ref m17, .ref m18, .ref m19, .ref m20, .ref m21, .ref m22, .ref m23, .ref m24]), (st, eI G 2246 st0)] := hD
  refine lv_iconst (v := 0) hx hb dX11_countOf_4 (by decide) ?_
  refine lv_istore_n (lv' := [(2, .int 0), (0, .ref mo), (1, .int a1)]) hx hb dX11_countOf_5 rfl hl (by decide) rfl (fun ls hl => ?_)
  refine lv_iconst (v := 0) hx hb dX11_countOf_6 (by decide) ?_
  refine lv_istore_n (lv' := [(3, .int 0), (2, .int 0), (0, .ref mo), (1, .int a1)]) hx hb dX11_countOf_7 rfl hl (by decide) rfl (fun ls hl => ?_)
  refine lv_iload_n hx hb dX11_countOf_8 rfl (lv_at hl 0 rfl) ?_
  refine lv_aload_n hx hb dX11_countOf_9 rfl (lv_at hl 2 rfl) ?_
  refine va_get (D := G.1) (ci := 10) (v := .ref st) (C := RX11) (T := TX11) (N := 25) hx hb hts inlX11 hown hG.1 hP 0 rfl rfl 0 (by decide) (hts (.fieldLink RX11 7 "SwornListsModel" "st" "[I") w_112) (fun _ h9 => h9) rfl dX11_countOf_10 ?_
  refine lv_iconst (v := 4) hx hb dX11_countOf_13 (by decide) ?_
  refine va_iald hx hb hG.1 hP 1 0 rfl rfl (by unfold vp_in; decide) dX11_countOf_14 ?_
  refine my_bei (v := 0) (by first | rfl | decide) ?_
  refine lv_icmp_ge (tgt := 41) hx hb dX11_countOf_15 (by decide) (fun c_15 => ?_) (fun c_15 => absurd (by decide) c_15)
  rcases (in5 h5) with e9 | e9 | e9 | e9 | e9 | e9
  · subst e9
    refine lv_iload_n hx hb dX11_countOf_41 rfl (lv_at hl 3 rfl) ?_
    refine lv_iconst (v := 5) hx hb dX11_countOf_42 (by decide) ?_
    refine lv_icmp_ne (tgt := 50) hx hb dX11_countOf_43 (by decide) (fun c_43 => ?_) (fun c_43 => absurd c_43 (by decide))
    refine lv_aload_n hx hb dX11_countOf_50 rfl (lv_at hl 2 rfl) ?_
    refine va_get (D := G.1) (ci := 10) (v := .ref st) (C := RX11) (T := TX11) (N := 25) hx hb hts inlX11 hown hG.1 hP 0 rfl rfl 0 (by decide) (hts (.fieldLink RX11 7 "SwornListsModel" "st" "[I") w_112) (fun _ h9 => h9) rfl dX11_countOf_51 ?_
    refine lv_iload_n hx hb dX11_countOf_54 rfl (lv_at hl 3 rfl) ?_
    refine va_iald hx hb hG.1 hP 1 0 rfl rfl (by unfold vp_in; decide) dX11_countOf_55 ?_
    refine my_bei (v := 0) (by first | rfl | decide) ?_
    have hP9 := hP.sub (ws' := [(mo, eO 10 [.ref st, .ref mi, .ref mk, .long 0, .long 1, .int 0, .ref m6, .ref m7, .int 0, .ref m9, .ref m10, .int 0, .int 0, .int 1, .int 0, .ref m15, .ref m16, .ref m17, .ref m18, .ref m19, .ref m20, .ref m21, .ref m22, .ref m23, .ref m24]), (st, eI G 2246 st0)]) [0, 1] rfl
    have hD9 := hD.sub (ws' := [(mo, eO 10 [.ref st, .ref mi, .ref mk, .long 0, .long 1, .int 0, .ref m6, .ref m7, .int 0, .ref m9, .ref m10, .int 0, .int 0, .int 1, .int 0, .ref m15, .ref m16, .ref m17, .ref m18, .ref m19, .ref m20, .ref m21, .ref m22, .ref m23, .ref m24]), (st, eI G 2246 st0)]) [0, 1] (by decide) rfl
    exact W.iret (v := 0) hx hb hr (fun t ht hW => ⟨⟨_, (), rfl, (rfl), ⟨by rw [ht]; exact hP9, hD9⟩⟩, hS.F ht⟩) hS.2.2 dX11_countOf_56
  · subst e9
    refine lv_iload_n hx hb dX11_countOf_41 rfl (lv_at hl 3 rfl) ?_
    refine lv_iconst (v := 5) hx hb dX11_countOf_42 (by decide) ?_
    refine lv_icmp_ne (tgt := 50) hx hb dX11_countOf_43 (by decide) (fun c_43 => ?_) (fun c_43 => absurd c_43 (by decide))
    refine lv_aload_n hx hb dX11_countOf_50 rfl (lv_at hl 2 rfl) ?_
    refine va_get (D := G.1) (ci := 10) (v := .ref st) (C := RX11) (T := TX11) (N := 25) hx hb hts inlX11 hown hG.1 hP 0 rfl rfl 0 (by decide) (hts (.fieldLink RX11 7 "SwornListsModel" "st" "[I") w_112) (fun _ h9 => h9) rfl dX11_countOf_51 ?_
    refine lv_iload_n hx hb dX11_countOf_54 rfl (lv_at hl 3 rfl) ?_
    refine va_iald hx hb hG.1 hP 1 0 rfl rfl (by unfold vp_in; decide) dX11_countOf_55 ?_
    refine my_bei (v := 0) (by first | rfl | decide) ?_
    have hP9 := hP.sub (ws' := [(mo, eO 10 [.ref st, .ref mi, .ref mk, .long 0, .long 1, .int 0, .ref m6, .ref m7, .int 0, .ref m9, .ref m10, .int 0, .int 0, .int 1, .int 0, .ref m15, .ref m16, .ref m17, .ref m18, .ref m19, .ref m20, .ref m21, .ref m22, .ref m23, .ref m24]), (st, eI G 2246 st0)]) [0, 1] rfl
    have hD9 := hD.sub (ws' := [(mo, eO 10 [.ref st, .ref mi, .ref mk, .long 0, .long 1, .int 0, .ref m6, .ref m7, .int 0, .ref m9, .ref m10, .int 0, .int 0, .int 1, .int 0, .ref m15, .ref m16, .ref m17, .ref m18, .ref m19, .ref m20, .ref m21, .ref m22, .ref m23, .ref m24]), (st, eI G 2246 st0)]) [0, 1] (by decide) rfl
    exact W.iret (v := 0) hx hb hr (fun t ht hW => ⟨⟨_, (), rfl, (rfl), ⟨by rw [ht]; exact hP9, hD9⟩⟩, hS.F ht⟩) hS.2.2 dX11_countOf_56
  · subst e9
    refine lv_iload_n hx hb dX11_countOf_41 rfl (lv_at hl 3 rfl) ?_
    refine lv_iconst (v := 5) hx hb dX11_countOf_42 (by decide) ?_
    refine lv_icmp_ne (tgt := 50) hx hb dX11_countOf_43 (by decide) (fun c_43 => ?_) (fun c_43 => absurd c_43 (by decide))
    refine lv_aload_n hx hb dX11_countOf_50 rfl (lv_at hl 2 rfl) ?_
    refine va_get (D := G.1) (ci := 10) (v := .ref st) (C := RX11) (T := TX11) (N := 25) hx hb hts inlX11 hown hG.1 hP 0 rfl rfl 0 (by decide) (hts (.fieldLink RX11 7 "SwornListsModel" "st" "[I") w_112) (fun _ h9 => h9) rfl dX11_countOf_51 ?_
    refine lv_iload_n hx hb dX11_countOf_54 rfl (lv_at hl 3 rfl) ?_
    refine va_iald hx hb hG.1 hP 1 0 rfl rfl (by unfold vp_in; decide) dX11_countOf_55 ?_
    refine my_bei (v := 0) (by first | rfl | decide) ?_
    have hP9 := hP.sub (ws' := [(mo, eO 10 [.ref st, .ref mi, .ref mk, .long 0, .long 1, .int 0, .ref m6, .ref m7, .int 0, .ref m9, .ref m10, .int 0, .int 0, .int 1, .int 0, .ref m15, .ref m16, .ref m17, .ref m18, .ref m19, .ref m20, .ref m21, .ref m22, .ref m23, .ref m24]), (st, eI G 2246 st0)]) [0, 1] rfl
    have hD9 := hD.sub (ws' := [(mo, eO 10 [.ref st, .ref mi, .ref mk, .long 0, .long 1, .int 0, .ref m6, .ref m7, .int 0, .ref m9, .ref m10, .int 0, .int 0, .int 1, .int 0, .ref m15, .ref m16, .ref m17, .ref m18, .ref m19, .ref m20, .ref m21, .ref m22, .ref m23, .ref m24]), (st, eI G 2246 st0)]) [0, 1] (by decide) rfl
    exact W.iret (v := 0) hx hb hr (fun t ht hW => ⟨⟨_, (), rfl, (rfl), ⟨by rw [ht]; exact hP9, hD9⟩⟩, hS.F ht⟩) hS.2.2 dX11_countOf_56
  · subst e9
    refine lv_iload_n hx hb dX11_countOf_41 rfl (lv_at hl 3 rfl) ?_
    refine lv_iconst (v := 5) hx hb dX11_countOf_42 (by decide) ?_
    refine lv_icmp_ne (tgt := 50) hx hb dX11_countOf_43 (by decide) (fun c_43 => ?_) (fun c_43 => absurd c_43 (by decide))
    refine lv_aload_n hx hb dX11_countOf_50 rfl (lv_at hl 2 rfl) ?_
    refine va_get (D := G.1) (ci := 10) (v := .ref st) (C := RX11) (T := TX11) (N := 25) hx hb hts inlX11 hown hG.1 hP 0 rfl rfl 0 (by decide) (hts (.fieldLink RX11 7 "SwornListsModel" "st" "[I") w_112) (fun _ h9 => h9) rfl dX11_countOf_51 ?_
    refine lv_iload_n hx hb dX11_countOf_54 rfl (lv_at hl 3 rfl) ?_
    refine va_iald hx hb hG.1 hP 1 0 rfl rfl (by unfold vp_in; decide) dX11_countOf_55 ?_
    refine my_bei (v := 0) (by first | rfl | decide) ?_
    have hP9 := hP.sub (ws' := [(mo, eO 10 [.ref st, .ref mi, .ref mk, .long 0, .long 1, .int 0, .ref m6, .ref m7, .int 0, .ref m9, .ref m10, .int 0, .int 0, .int 1, .int 0, .ref m15, .ref m16, .ref m17, .ref m18, .ref m19, .ref m20, .ref m21, .ref m22, .ref m23, .ref m24]), (st, eI G 2246 st0)]) [0, 1] rfl
    have hD9 := hD.sub (ws' := [(mo, eO 10 [.ref st, .ref mi, .ref mk, .long 0, .long 1, .int 0, .ref m6, .ref m7, .int 0, .ref m9, .ref m10, .int 0, .int 0, .int 1, .int 0, .ref m15, .ref m16, .ref m17, .ref m18, .ref m19, .ref m20, .ref m21, .ref m22, .ref m23, .ref m24]), (st, eI G 2246 st0)]) [0, 1] (by decide) rfl
    exact W.iret (v := 0) hx hb hr (fun t ht hW => ⟨⟨_, (), rfl, (rfl), ⟨by rw [ht]; exact hP9, hD9⟩⟩, hS.F ht⟩) hS.2.2 dX11_countOf_56
  · subst e9
    refine lv_iload_n hx hb dX11_countOf_41 rfl (lv_at hl 3 rfl) ?_
    refine lv_iconst (v := 5) hx hb dX11_countOf_42 (by decide) ?_
    refine lv_icmp_ne (tgt := 50) hx hb dX11_countOf_43 (by decide) (fun c_43 => ?_) (fun c_43 => absurd c_43 (by decide))
    refine lv_aload_n hx hb dX11_countOf_50 rfl (lv_at hl 2 rfl) ?_
    refine va_get (D := G.1) (ci := 10) (v := .ref st) (C := RX11) (T := TX11) (N := 25) hx hb hts inlX11 hown hG.1 hP 0 rfl rfl 0 (by decide) (hts (.fieldLink RX11 7 "SwornListsModel" "st" "[I") w_112) (fun _ h9 => h9) rfl dX11_countOf_51 ?_
    refine lv_iload_n hx hb dX11_countOf_54 rfl (lv_at hl 3 rfl) ?_
    refine va_iald hx hb hG.1 hP 1 0 rfl rfl (by unfold vp_in; decide) dX11_countOf_55 ?_
    refine my_bei (v := 0) (by first | rfl | decide) ?_
    have hP9 := hP.sub (ws' := [(mo, eO 10 [.ref st, .ref mi, .ref mk, .long 0, .long 1, .int 0, .ref m6, .ref m7, .int 0, .ref m9, .ref m10, .int 0, .int 0, .int 1, .int 0, .ref m15, .ref m16, .ref m17, .ref m18, .ref m19, .ref m20, .ref m21, .ref m22, .ref m23, .ref m24]), (st, eI G 2246 st0)]) [0, 1] rfl
    have hD9 := hD.sub (ws' := [(mo, eO 10 [.ref st, .ref mi, .ref mk, .long 0, .long 1, .int 0, .ref m6, .ref m7, .int 0, .ref m9, .ref m10, .int 0, .int 0, .int 1, .int 0, .ref m15, .ref m16, .ref m17, .ref m18, .ref m19, .ref m20, .ref m21, .ref m22, .ref m23, .ref m24]), (st, eI G 2246 st0)]) [0, 1] (by decide) rfl
    exact W.iret (v := 0) hx hb hr (fun t ht hW => ⟨⟨_, (), rfl, (rfl), ⟨by rw [ht]; exact hP9, hD9⟩⟩, hS.F ht⟩) hS.2.2 dX11_countOf_56
  · subst e9
    refine lv_iload_n hx hb dX11_countOf_41 rfl (lv_at hl 3 rfl) ?_
    refine lv_iconst (v := 5) hx hb dX11_countOf_42 (by decide) ?_
    refine lv_icmp_ne (tgt := 50) hx hb dX11_countOf_43 (by decide) (fun c_43 => absurd (by decide) c_43) (fun c_43 => ?_)
    refine lv_iload_n hx hb dX11_countOf_46 rfl (lv_at hl 1 rfl) ?_
    refine lv_goto (tgt := 56) hx hb dX11_countOf_47 (by decide) ?_
    have hP9 := hP.sub (ws' := [(mo, eO 10 [.ref st, .ref mi, .ref mk, .long 0, .long 1, .int 0, .ref m6, .ref m7, .int 0, .ref m9, .ref m10, .int 0, .int 0, .int 1, .int 0, .ref m15, .ref m16, .ref m17, .ref m18, .ref m19, .ref m20, .ref m21, .ref m22, .ref m23, .ref m24]), (st, eI G 2246 st0)]) [0, 1] rfl
    have hD9 := hD.sub (ws' := [(mo, eO 10 [.ref st, .ref mi, .ref mk, .long 0, .long 1, .int 0, .ref m6, .ref m7, .int 0, .ref m9, .ref m10, .int 0, .int 0, .int 1, .int 0, .ref m15, .ref m16, .ref m17, .ref m18, .ref m19, .ref m20, .ref m21, .ref m22, .ref m23, .ref m24]), (st, eI G 2246 st0)]) [0, 1] (by decide) rfl
    exact W.iret (v := 0) hx hb hr (fun t ht hW => ⟨⟨_, (), rfl, (rfl), ⟨by rw [ht]; exact hP9, hD9⟩⟩, hS.F ht⟩) hS.2.2 dX11_countOf_56
set_option maxHeartbeats 4000000 in
set_option maxRecDepth 100000 in
theorem c_countOf1 (l : Launch) (G : gW) (sz : Nat) (mo : Nat) (st : Nat) (mi : Nat) (mk : Nat) (m6 : Nat) (m7 : Nat) (m9 : Nat) (m10 : Nat) (m15 : Nat) (m16 : Nat) (m17 : Nat) (m18 : Nat) (m19 : Nat) (m20 : Nat) (m21 : Nat) (m22 : Nat) (m23 : Nat) (m24 : Nat) (a1 : Int32) (h5 : inB 0 a1 5 = true) : Met l yX11_countOf (wsT yX11_countOf cX11_countOf 4 (some .int)) ({ frames := 1, cells := 0, slots := 0, locals := 21 }) (wP G [.ref mo, .int a1] sz [(mo, eO 10 [.ref st, .ref mi, .ref mk, .long 0, .long 1, .int 0, .ref m6, .ref m7, .int 0, .ref m9, .ref m10, .int 0, .int 0, .int 1, .int 0, .ref m15, .ref m16, .ref m17, .ref m18, .ref m19, .ref m20, .ref m21, .ref m22, .ref m23, .ref m24]), (st, eI G 2246 st0)]) (va_Qi (fun (r : Int32) (_ : Unit) => r = 0) (wB G (va_A [(mo, eO 10 [.ref st, .ref mi, .ref mk, .long 0, .long 1, .int 0, .ref m6, .ref m7, .int 0, .ref m9, .ref m10, .int 0, .int 0, .int 1, .int 0, .ref m15, .ref m16, .ref m17, .ref m18, .ref m19, .ref m20, .ref m21, .ref m22, .ref m23, .ref m24]), (st, eI G 2246 st0)] sz) (fun _ : Unit => [(mo, eO 10 [.ref st, .ref mi, .ref mk, .long 0, .long 1, .int 0, .ref m6, .ref m7, .int 0, .ref m9, .ref m10, .int 0, .int 0, .int 1, .int 0, .ref m15, .ref m16, .ref m17, .ref m18, .ref m19, .ref m20, .ref m21, .ref m22, .ref m23, .ref m24]), (st, eI G 2246 st0)])) (va_A [(mo, eO 10 [.ref st, .ref mi, .ref mk, .long 0, .long 1, .int 0, .ref m6, .ref m7, .int 0, .ref m9, .ref m10, .int 0, .int 0, .int 1, .int 0, .ref m15, .ref m16, .ref m17, .ref m18, .ref m19, .ref m20, .ref m21, .ref m22, .ref m23, .ref m24]), (st, eI G 2246 st0)] sz)) 0 0 (va_A [(mo, eO 10 [.ref st, .ref mi, .ref mk, .long 0, .long 1, .int 0, .ref m6, .ref m7, .int 0, .ref m9, .ref m10, .int 0, .int 0, .int 1, .int 0, .ref m15, .ref m16, .ref m17, .ref m18, .ref m19, .ref m20, .ref m21, .ref m22, .ref m23, .ref m24]), (st, eI G 2246 st0)] sz) := by
  refine Met.ofW (cc := cX11_countOf) (maxL := 4) (ret := (some .int)) (by decide) rfl ?_
  intro p e s m args below meth c s₁ B hml hv
  obtain ⟨rfl, hsz, hP, hG, hD0⟩ := hv
  have hx := B.exec
  have hb := B.bytes
  have hr := B.returns
  have hts := my_hts (atoms_spec (ws := wsT yX11_countOf cX11_countOf 4 (some .int)) B.pre)
  have hown : s.vm.findClass RX11 = some m.cls := findClass_of_methodNamed B.named
  have hlocks := B.notSynchronized
  subst hsz
  have hD := hD0.self (sz := s.heap.size)
  generalize hAe : va_A [(mo, eO 10 [.ref st, .ref mi, .ref mk, .long 0, .long 1, .int 0, .ref m6, .ref m7, .int 0, .ref m9, .ref m10, .int 0, .int 0, .int 1, .int 0, .ref m15, .ref m16, .ref m17, .ref m18, .ref m19, .ref m20, .ref m21, .ref m22, .ref m23, .ref m24]), (st, eI G 2246 st0)] s.heap.size = A at hD ⊢
  have hA : ∀ q : Nat, s.heap.size ≤ q → A q := fun q h => by rw [← hAe]; exact Or.inr h
  have hS : va_S A s.heap s.heap [] := va_S.rf
  have hP : va_P G.1 vwCl [(mo, eO 10 [.ref st, .ref mi, .ref mk, .long 0, .long 1, .int 0, .ref m6, .ref m7, .int 0, .ref m9, .ref m10, .int 0, .int 0, .int 1, .int 0, .ref m15, .ref m16, .ref m17, .ref m18, .ref m19, .ref m20, .ref m21, .ref m22, .ref m23, .ref m24]), (st, eI G 2246 st0)] s.heap := hP
  have hl := lv_entry ([.ref mo, .int a1]) (n := 4) (Nat.le_of_ble_eq_true rfl)
  rw [lg_entry_eq]
  generalize (lg_sl ([.ref mo, .int a1]) ++ List.replicate (4 - (lg_sl ([.ref mo, .int a1])).length) Slot.unset).toArray = ls at hl ⊢
  have hl : lv_has ls 4 [(0, .ref mo), (1, .int a1)] := hl
  refine lv_aload_n hx hb dX11_countOf_0 rfl (lv_at hl 0 rfl) ?_
  have hPc := hP.sub (ws' := [(mo, eO 10 [.ref st, .ref mi, .ref mk, .long 0, .long 1, .int 0, .ref m6, .ref m7, .int 0, .ref m9, .ref m10, .int 0, .int 0, .int 1, .int 0, .ref m15, .ref m16, .ref m17, .ref m18, .ref m19, .ref m20, .ref m21, .ref m22, .ref m23, .ref m24]), (st, eI G 2246 st0)]) [0, 1] rfl
  have hDc := hD.sub (ws' := [(mo, eO 10 [.ref st, .ref mi, .ref mk, .long 0, .long 1, .int 0, .ref m6, .ref m7, .int 0, .ref m9, .ref m10, .int 0, .int 0, .int 1, .int 0, .ref m15, .ref m16, .ref m17, .ref m18, .ref m19, .ref m20, .ref m21, .ref m22, .ref m23, .ref m24]), (st, eI G 2246 st0)]) [0, 1] (by decide) rfl
  have hFc := va_free (wc := [(mo, eO 10 [.ref st, .ref mi, .ref mk, .long 0, .long 1, .int 0, .ref m6, .ref m7, .int 0, .ref m9, .ref m10, .int 0, .int 0, .int 1, .int 0, .ref m15, .ref m16, .ref m17, .ref m18, .ref m19, .ref m20, .ref m21, .ref m22, .ref m23, .ref m24]), (st, eI G 2246 st0)]) hD hS hA [0, 1] rfl
  refine va_callv (va_runV (As := []) (rest := []) ⟨hx, hb, hml, hown, hts⟩ (c_finds1 l G s.heap.size mo st mi mk m6 m7 m9 m10 m15 m16 m17 m18 m19 m20 m21 m22 m23 m24 ) (my_cwV hts ok_X11_finds w_523 rfl rfl ⟨Nat.le_of_ble_eq_true rfl, Nat.le_of_ble_eq_true rfl⟩) ⟨wP.blind, va_recv hG.1 hPc (ci := 10) (q0 := 0) rfl rfl, fun U hU hW => ⟨rfl, by rw [hU], by rw [hU]; exact hPc, kG.warm hW hG, hDc.weaken (fun _ _ _ _ => trivial)⟩⟩ rfl rfl hl.1 rfl (lv_room (Nat.le_of_ble_eq_true rfl)) dX11_countOf_1 ⟨Nat.le_of_ble_eq_true rfl, Nat.le_of_ble_eq_true rfl⟩) hS (fun q _ h => hFc q h) hFc (fun u t H1 locs ht hvm hw hB hz1 hk1 hS => ?_)
  obtain ⟨hP1, hD1⟩ := hB
  rw [ht] at hP1
  try dsimp only at hw
  obtain ⟨hP, hD⟩ := va_join (wr := []) (w1 := [(mo, eO 10 [.ref st, .ref mi, .ref mk, .long 0, .long 1, .int 0, .ref m6, .ref m7, .int 0, .ref m9, .ref m10, .int 0, .int 0, .int 1, .int 0, .ref m15, .ref m16, .ref m17, .ref m18, .ref m19, .ref m20, .ref m21, .ref m22, .ref m23, .ref m24]), (st, eI G 2246 st0)]) hP hD [0, 1] [] rfl rfl (by decide) (by decide) hk1 hFc hP1 hD1
  generalize H1 = H at hP hS ⊢
  have hP : va_P G.1 vwCl [(mo, eO 10 [.ref st, .ref mi, .ref mk, .long 0, .long 1, .int 0, .ref m6, .ref m7, .int 0, .ref m9, .ref m10, .int 0, .int 0, .int 1, .int 0, .ref m15, .ref m16, .ref m17, .ref m18, .ref m19, .ref m20, .ref m21, .ref m22, .ref m23, .ref m24]), (st, eI G 2246 st0)] H := hP
  have hD : va_D A [(mo, eO 10 [.ref st, .ref mi, .ref mk, .long 0, .long 1, .int 0, .ref m6, .ref m7, .int 0, .ref m9, .ref m10, .int 0, .int 0, .int 1, .int 0, .ref m15, .ref m16, .ref m17, .ref m18, .ref m19, .ref m20, .ref m21, .ref m22, .ref m23, .ref m24]), (st, eI G 2246 st0)] := hD
  refine lv_iconst (v := 0) hx hb dX11_countOf_4 (by decide) ?_
  refine lv_istore_n (lv' := [(2, .int 0), (0, .ref mo), (1, .int a1)]) hx hb dX11_countOf_5 rfl hl (by decide) rfl (fun ls hl => ?_)
  refine lv_iconst (v := 0) hx hb dX11_countOf_6 (by decide) ?_
  refine lv_istore_n (lv' := [(3, .int 0), (2, .int 0), (0, .ref mo), (1, .int a1)]) hx hb dX11_countOf_7 rfl hl (by decide) rfl (fun ls hl => ?_)
  refine lv_iload_n hx hb dX11_countOf_8 rfl (lv_at hl 0 rfl) ?_
  refine lv_aload_n hx hb dX11_countOf_9 rfl (lv_at hl 2 rfl) ?_
  refine va_get (D := G.1) (ci := 10) (v := .ref st) (C := RX11) (T := TX11) (N := 25) hx hb hts inlX11 hown hG.1 hP 0 rfl rfl 0 (by decide) (hts (.fieldLink RX11 7 "SwornListsModel" "st" "[I") w_112) (fun _ h9 => h9) rfl dX11_countOf_10 ?_
  refine lv_iconst (v := 4) hx hb dX11_countOf_13 (by decide) ?_
  refine va_iald hx hb hG.1 hP 1 0 rfl rfl (by unfold vp_in; decide) dX11_countOf_14 ?_
  refine my_bei (v := 0) (by first | rfl | decide) ?_
  refine lv_icmp_ge (tgt := 41) hx hb dX11_countOf_15 (by decide) (fun c_15 => ?_) (fun c_15 => absurd (by decide) c_15)
  rcases (in5 h5) with e9 | e9 | e9 | e9 | e9 | e9
  · subst e9
    refine lv_iload_n hx hb dX11_countOf_41 rfl (lv_at hl 3 rfl) ?_
    refine lv_iconst (v := 5) hx hb dX11_countOf_42 (by decide) ?_
    refine lv_icmp_ne (tgt := 50) hx hb dX11_countOf_43 (by decide) (fun c_43 => ?_) (fun c_43 => absurd c_43 (by decide))
    refine lv_aload_n hx hb dX11_countOf_50 rfl (lv_at hl 2 rfl) ?_
    refine va_get (D := G.1) (ci := 10) (v := .ref st) (C := RX11) (T := TX11) (N := 25) hx hb hts inlX11 hown hG.1 hP 0 rfl rfl 0 (by decide) (hts (.fieldLink RX11 7 "SwornListsModel" "st" "[I") w_112) (fun _ h9 => h9) rfl dX11_countOf_51 ?_
    refine lv_iload_n hx hb dX11_countOf_54 rfl (lv_at hl 3 rfl) ?_
    refine va_iald hx hb hG.1 hP 1 0 rfl rfl (by unfold vp_in; decide) dX11_countOf_55 ?_
    refine my_bei (v := 0) (by first | rfl | decide) ?_
    have hP9 := hP.sub (ws' := [(mo, eO 10 [.ref st, .ref mi, .ref mk, .long 0, .long 1, .int 0, .ref m6, .ref m7, .int 0, .ref m9, .ref m10, .int 0, .int 0, .int 1, .int 0, .ref m15, .ref m16, .ref m17, .ref m18, .ref m19, .ref m20, .ref m21, .ref m22, .ref m23, .ref m24]), (st, eI G 2246 st0)]) [0, 1] rfl
    have hD9 := hD.sub (ws' := [(mo, eO 10 [.ref st, .ref mi, .ref mk, .long 0, .long 1, .int 0, .ref m6, .ref m7, .int 0, .ref m9, .ref m10, .int 0, .int 0, .int 1, .int 0, .ref m15, .ref m16, .ref m17, .ref m18, .ref m19, .ref m20, .ref m21, .ref m22, .ref m23, .ref m24]), (st, eI G 2246 st0)]) [0, 1] (by decide) rfl
    exact W.iret (v := 0) hx hb hr (fun t ht hW => ⟨⟨_, (), rfl, (rfl), ⟨by rw [ht]; exact hP9, hD9⟩⟩, hS.F ht⟩) hS.2.2 dX11_countOf_56
  · subst e9
    refine lv_iload_n hx hb dX11_countOf_41 rfl (lv_at hl 3 rfl) ?_
    refine lv_iconst (v := 5) hx hb dX11_countOf_42 (by decide) ?_
    refine lv_icmp_ne (tgt := 50) hx hb dX11_countOf_43 (by decide) (fun c_43 => ?_) (fun c_43 => absurd c_43 (by decide))
    refine lv_aload_n hx hb dX11_countOf_50 rfl (lv_at hl 2 rfl) ?_
    refine va_get (D := G.1) (ci := 10) (v := .ref st) (C := RX11) (T := TX11) (N := 25) hx hb hts inlX11 hown hG.1 hP 0 rfl rfl 0 (by decide) (hts (.fieldLink RX11 7 "SwornListsModel" "st" "[I") w_112) (fun _ h9 => h9) rfl dX11_countOf_51 ?_
    refine lv_iload_n hx hb dX11_countOf_54 rfl (lv_at hl 3 rfl) ?_
    refine va_iald hx hb hG.1 hP 1 0 rfl rfl (by unfold vp_in; decide) dX11_countOf_55 ?_
    refine my_bei (v := 0) (by first | rfl | decide) ?_
    have hP9 := hP.sub (ws' := [(mo, eO 10 [.ref st, .ref mi, .ref mk, .long 0, .long 1, .int 0, .ref m6, .ref m7, .int 0, .ref m9, .ref m10, .int 0, .int 0, .int 1, .int 0, .ref m15, .ref m16, .ref m17, .ref m18, .ref m19, .ref m20, .ref m21, .ref m22, .ref m23, .ref m24]), (st, eI G 2246 st0)]) [0, 1] rfl
    have hD9 := hD.sub (ws' := [(mo, eO 10 [.ref st, .ref mi, .ref mk, .long 0, .long 1, .int 0, .ref m6, .ref m7, .int 0, .ref m9, .ref m10, .int 0, .int 0, .int 1, .int 0, .ref m15, .ref m16, .ref m17, .ref m18, .ref m19, .ref m20, .ref m21, .ref m22, .ref m23, .ref m24]), (st, eI G 2246 st0)]) [0, 1] (by decide) rfl
    exact W.iret (v := 0) hx hb hr (fun t ht hW => ⟨⟨_, (), rfl, (rfl), ⟨by rw [ht]; exact hP9, hD9⟩⟩, hS.F ht⟩) hS.2.2 dX11_countOf_56
  · subst e9
    refine lv_iload_n hx hb dX11_countOf_41 rfl (lv_at hl 3 rfl) ?_
    refine lv_iconst (v := 5) hx hb dX11_countOf_42 (by decide) ?_
    refine lv_icmp_ne (tgt := 50) hx hb dX11_countOf_43 (by decide) (fun c_43 => ?_) (fun c_43 => absurd c_43 (by decide))
    refine lv_aload_n hx hb dX11_countOf_50 rfl (lv_at hl 2 rfl) ?_
    refine va_get (D := G.1) (ci := 10) (v := .ref st) (C := RX11) (T := TX11) (N := 25) hx hb hts inlX11 hown hG.1 hP 0 rfl rfl 0 (by decide) (hts (.fieldLink RX11 7 "SwornListsModel" "st" "[I") w_112) (fun _ h9 => h9) rfl dX11_countOf_51 ?_
    refine lv_iload_n hx hb dX11_countOf_54 rfl (lv_at hl 3 rfl) ?_
    refine va_iald hx hb hG.1 hP 1 0 rfl rfl (by unfold vp_in; decide) dX11_countOf_55 ?_
    refine my_bei (v := 0) (by first | rfl | decide) ?_
    have hP9 := hP.sub (ws' := [(mo, eO 10 [.ref st, .ref mi, .ref mk, .long 0, .long 1, .int 0, .ref m6, .ref m7, .int 0, .ref m9, .ref m10, .int 0, .int 0, .int 1, .int 0, .ref m15, .ref m16, .ref m17, .ref m18, .ref m19, .ref m20, .ref m21, .ref m22, .ref m23, .ref m24]), (st, eI G 2246 st0)]) [0, 1] rfl
    have hD9 := hD.sub (ws' := [(mo, eO 10 [.ref st, .ref mi, .ref mk, .long 0, .long 1, .int 0, .ref m6, .ref m7, .int 0, .ref m9, .ref m10, .int 0, .int 0, .int 1, .int 0, .ref m15, .ref m16, .ref m17, .ref m18, .ref m19, .ref m20, .ref m21, .ref m22, .ref m23, .ref m24]), (st, eI G 2246 st0)]) [0, 1] (by decide) rfl
    exact W.iret (v := 0) hx hb hr (fun t ht hW => ⟨⟨_, (), rfl, (rfl), ⟨by rw [ht]; exact hP9, hD9⟩⟩, hS.F ht⟩) hS.2.2 dX11_countOf_56
  · subst e9
    refine lv_iload_n hx hb dX11_countOf_41 rfl (lv_at hl 3 rfl) ?_
    refine lv_iconst (v := 5) hx hb dX11_countOf_42 (by decide) ?_
    refine lv_icmp_ne (tgt := 50) hx hb dX11_countOf_43 (by decide) (fun c_43 => ?_) (fun c_43 => absurd c_43 (by decide))
    refine lv_aload_n hx hb dX11_countOf_50 rfl (lv_at hl 2 rfl) ?_
    refine va_get (D := G.1) (ci := 10) (v := .ref st) (C := RX11) (T := TX11) (N := 25) hx hb hts inlX11 hown hG.1 hP 0 rfl rfl 0 (by decide) (hts (.fieldLink RX11 7 "SwornListsModel" "st" "[I") w_112) (fun _ h9 => h9) rfl dX11_countOf_51 ?_
    refine lv_iload_n hx hb dX11_countOf_54 rfl (lv_at hl 3 rfl) ?_
    refine va_iald hx hb hG.1 hP 1 0 rfl rfl (by unfold vp_in; decide) dX11_countOf_55 ?_
    refine my_bei (v := 0) (by first | rfl | decide) ?_
    have hP9 := hP.sub (ws' := [(mo, eO 10 [.ref st, .ref mi, .ref mk, .long 0, .long 1, .int 0, .ref m6, .ref m7, .int 0, .ref m9, .ref m10, .int 0, .int 0, .int 1, .int 0, .ref m15, .ref m16, .ref m17, .ref m18, .ref m19, .ref m20, .ref m21, .ref m22, .ref m23, .ref m24]), (st, eI G 2246 st0)]) [0, 1] rfl
    have hD9 := hD.sub (ws' := [(mo, eO 10 [.ref st, .ref mi, .ref mk, .long 0, .long 1, .int 0, .ref m6, .ref m7, .int 0, .ref m9, .ref m10, .int 0, .int 0, .int 1, .int 0, .ref m15, .ref m16, .ref m17, .ref m18, .ref m19, .ref m20, .ref m21, .ref m22, .ref m23, .ref m24]), (st, eI G 2246 st0)]) [0, 1] (by decide) rfl
    exact W.iret (v := 0) hx hb hr (fun t ht hW => ⟨⟨_, (), rfl, (rfl), ⟨by rw [ht]; exact hP9, hD9⟩⟩, hS.F ht⟩) hS.2.2 dX11_countOf_56
  · subst e9
    refine lv_iload_n hx hb dX11_countOf_41 rfl (lv_at hl 3 rfl) ?_
    refine lv_iconst (v := 5) hx hb dX11_countOf_42 (by decide) ?_
    refine lv_icmp_ne (tgt := 50) hx hb dX11_countOf_43 (by decide) (fun c_43 => ?_) (fun c_43 => absurd c_43 (by decide))
    refine lv_aload_n hx hb dX11_countOf_50 rfl (lv_at hl 2 rfl) ?_
    refine va_get (D := G.1) (ci := 10) (v := .ref st) (C := RX11) (T := TX11) (N := 25) hx hb hts inlX11 hown hG.1 hP 0 rfl rfl 0 (by decide) (hts (.fieldLink RX11 7 "SwornListsModel" "st" "[I") w_112) (fun _ h9 => h9) rfl dX11_countOf_51 ?_
    refine lv_iload_n hx hb dX11_countOf_54 rfl (lv_at hl 3 rfl) ?_
    refine va_iald hx hb hG.1 hP 1 0 rfl rfl (by unfold vp_in; decide) dX11_countOf_55 ?_
    refine my_bei (v := 0) (by first | rfl | decide) ?_
    have hP9 := hP.sub (ws' := [(mo, eO 10 [.ref st, .ref mi, .ref mk, .long 0, .long 1, .int 0, .ref m6, .ref m7, .int 0, .ref m9, .ref m10, .int 0, .int 0, .int 1, .int 0, .ref m15, .ref m16, .ref m17, .ref m18, .ref m19, .ref m20, .ref m21, .ref m22, .ref m23, .ref m24]), (st, eI G 2246 st0)]) [0, 1] rfl
    have hD9 := hD.sub (ws' := [(mo, eO 10 [.ref st, .ref mi, .ref mk, .long 0, .long 1, .int 0, .ref m6, .ref m7, .int 0, .ref m9, .ref m10, .int 0, .int 0, .int 1, .int 0, .ref m15, .ref m16, .ref m17, .ref m18, .ref m19, .ref m20, .ref m21, .ref m22, .ref m23, .ref m24]), (st, eI G 2246 st0)]) [0, 1] (by decide) rfl
    exact W.iret (v := 0) hx hb hr (fun t ht hW => ⟨⟨_, (), rfl, (rfl), ⟨by rw [ht]; exact hP9, hD9⟩⟩, hS.F ht⟩) hS.2.2 dX11_countOf_56
  · subst e9
    refine lv_iload_n hx hb dX11_countOf_41 rfl (lv_at hl 3 rfl) ?_
    refine lv_iconst (v := 5) hx hb dX11_countOf_42 (by decide) ?_
    refine lv_icmp_ne (tgt := 50) hx hb dX11_countOf_43 (by decide) (fun c_43 => absurd (by decide) c_43) (fun c_43 => ?_)
    refine lv_iload_n hx hb dX11_countOf_46 rfl (lv_at hl 1 rfl) ?_
    refine lv_goto (tgt := 56) hx hb dX11_countOf_47 (by decide) ?_
    have hP9 := hP.sub (ws' := [(mo, eO 10 [.ref st, .ref mi, .ref mk, .long 0, .long 1, .int 0, .ref m6, .ref m7, .int 0, .ref m9, .ref m10, .int 0, .int 0, .int 1, .int 0, .ref m15, .ref m16, .ref m17, .ref m18, .ref m19, .ref m20, .ref m21, .ref m22, .ref m23, .ref m24]), (st, eI G 2246 st0)]) [0, 1] rfl
    have hD9 := hD.sub (ws' := [(mo, eO 10 [.ref st, .ref mi, .ref mk, .long 0, .long 1, .int 0, .ref m6, .ref m7, .int 0, .ref m9, .ref m10, .int 0, .int 0, .int 1, .int 0, .ref m15, .ref m16, .ref m17, .ref m18, .ref m19, .ref m20, .ref m21, .ref m22, .ref m23, .ref m24]), (st, eI G 2246 st0)]) [0, 1] (by decide) rfl
    exact W.iret (v := 0) hx hb hr (fun t ht hW => ⟨⟨_, (), rfl, (rfl), ⟨by rw [ht]; exact hP9, hD9⟩⟩, hS.F ht⟩) hS.2.2 dX11_countOf_56
set_option maxHeartbeats 4000000 in
set_option maxRecDepth 100000 in
theorem c_mixed_10 (l : Launch) (G : gW) (mo : Nat) (st : Nat) (mi : Nat) (mk : Nat) (m6 : Nat) (m7 : Nat) (m9 : Nat) (m10 : Nat) (m15 : Nat) (m16 : Nat) (m17 : Nat) (m18 : Nat) (m19 : Nat) (m20 : Nat) (m21 : Nat) (m22 : Nat) (m23 : Nat) (m24 : Nat) (h : Int64) (j3 : Int64) (j4 : Int64) (i5 : Int32) (i8 : Int32) (i11 : Int32) (i12 : Int32) (i13 : Int32) (i14 : Int32)  : Met l yX11_mixed (wsT yX11_mixed cX11_mixed 8 (some .long)) ({ frames := 0, cells := 0, slots := 0, locals := 0 }) (rP G [.ref mo, .long h, .int 10, .int 0] [(mo, eO 10 [.ref st, .ref mi, .ref mk, .long j3, .long j4, .int i5, .ref m6, .ref m7, .int i8, .ref m9, .ref m10, .int i11, .int i12, .int i13, .int i14, .ref m15, .ref m16, .ref m17, .ref m18, .ref m19, .ref m20, .ref m21, .ref m22, .ref m23, .ref m24]), (st, eI G 2246 st0)]) (rQl (fun r => r = h)) 0 0 fr0 := by
  refine Met.ofW (cc := cX11_mixed) (maxL := 8) (ret := (some .long)) (by decide) rfl ?_
  intro p e s m args below meth c s₁ B hml hv
  obtain ⟨rfl, hP, hG⟩ := hv
  have hx := B.exec
  have hb := B.bytes
  have hr := B.returns
  have hts := my_hts (atoms_spec (ws := wsT yX11_mixed cX11_mixed 8 (some .long)) B.pre)
  have hown : s.vm.findClass RX11 = some m.cls := findClass_of_methodNamed B.named
  have hlocks := B.notSynchronized
  have hP : va_P G.1 vwCl [(mo, eO 10 [.ref st, .ref mi, .ref mk, .long j3, .long j4, .int i5, .ref m6, .ref m7, .int i8, .ref m9, .ref m10, .int i11, .int i12, .int i13, .int i14, .ref m15, .ref m16, .ref m17, .ref m18, .ref m19, .ref m20, .ref m21, .ref m22, .ref m23, .ref m24]), (st, eI G 2246 st0)] s.heap := hP
  have hl := lv_entry ([.ref mo, .long h, .int 10, .int 0]) (n := 8) (Nat.le_of_ble_eq_true rfl)
  rw [lg_entry_eq]
  generalize (lg_sl ([.ref mo, .long h, .int 10, .int 0]) ++ List.replicate (8 - (lg_sl ([.ref mo, .long h, .int 10, .int 0])).length) Slot.unset).toArray = ls at hl ⊢
  have hl : lv_has ls 8 [(0, .ref mo), (1, .long h), (3, .int 10), (4, .int 0)] := hl
  refine lv_lload_n hx hb dX11_mixed_0 rfl (lv_at hl 1 rfl) ?_
  refine lv_lstore (lv' := [(5, .long h), (0, .ref mo), (1, .long h), (3, .int 10), (4, .int 0)]) hx hb dX11_mixed_1 hl (by decide) rfl (fun ls hl => ?_)
  refine lv_iconst (v := 0) hx hb dX11_mixed_3 (by decide) ?_
  refine lv_istore (lv' := [(7, .int 0), (5, .long h), (0, .ref mo), (1, .long h), (3, .int 10), (4, .int 0)]) hx hb dX11_mixed_4 hl (by decide) rfl (fun ls hl => ?_)
  refine lv_iload hx hb dX11_mixed_6 (lv_at hl 0 rfl) ?_
  refine lv_iload hx hb dX11_mixed_8 (lv_at hl 5 rfl) ?_
  refine lv_icmp_ge (tgt := 38) hx hb dX11_mixed_10 (by decide) (fun c_10 => ?_) (fun c_10 => absurd (by decide) c_10)
  refine lv_lload hx hb dX11_mixed_38 (lv_at hl 1 rfl) ?_
  exact W.lret (v := h) hx hb hr (fun t ht hW => ⟨_, rfl, (rfl), ht⟩) (fun _ h => absurd h List.not_mem_nil) dX11_mixed_40
set_option maxHeartbeats 4000000 in
set_option maxRecDepth 100000 in
theorem c_mixed_130 (l : Launch) (G : gW) (mo : Nat) (st : Nat) (mi : Nat) (mk : Nat) (m6 : Nat) (m7 : Nat) (m9 : Nat) (m10 : Nat) (m15 : Nat) (m16 : Nat) (m17 : Nat) (m18 : Nat) (m19 : Nat) (m20 : Nat) (m21 : Nat) (m22 : Nat) (m23 : Nat) (m24 : Nat) (h : Int64) (j3 : Int64) (j4 : Int64) (i5 : Int32) (i8 : Int32) (i11 : Int32) (i12 : Int32) (i13 : Int32) (i14 : Int32)  : Met l yX11_mixed (wsT yX11_mixed cX11_mixed 8 (some .long)) ({ frames := 0, cells := 0, slots := 0, locals := 0 }) (rP G [.ref mo, .long h, .int 130, .int 0] [(mo, eO 10 [.ref st, .ref mi, .ref mk, .long j3, .long j4, .int i5, .ref m6, .ref m7, .int i8, .ref m9, .ref m10, .int i11, .int i12, .int i13, .int i14, .ref m15, .ref m16, .ref m17, .ref m18, .ref m19, .ref m20, .ref m21, .ref m22, .ref m23, .ref m24]), (st, eI G 2246 st0)]) (rQl (fun r => r = h)) 0 0 fr0 := by
  refine Met.ofW (cc := cX11_mixed) (maxL := 8) (ret := (some .long)) (by decide) rfl ?_
  intro p e s m args below meth c s₁ B hml hv
  obtain ⟨rfl, hP, hG⟩ := hv
  have hx := B.exec
  have hb := B.bytes
  have hr := B.returns
  have hts := my_hts (atoms_spec (ws := wsT yX11_mixed cX11_mixed 8 (some .long)) B.pre)
  have hown : s.vm.findClass RX11 = some m.cls := findClass_of_methodNamed B.named
  have hlocks := B.notSynchronized
  have hP : va_P G.1 vwCl [(mo, eO 10 [.ref st, .ref mi, .ref mk, .long j3, .long j4, .int i5, .ref m6, .ref m7, .int i8, .ref m9, .ref m10, .int i11, .int i12, .int i13, .int i14, .ref m15, .ref m16, .ref m17, .ref m18, .ref m19, .ref m20, .ref m21, .ref m22, .ref m23, .ref m24]), (st, eI G 2246 st0)] s.heap := hP
  have hl := lv_entry ([.ref mo, .long h, .int 130, .int 0]) (n := 8) (Nat.le_of_ble_eq_true rfl)
  rw [lg_entry_eq]
  generalize (lg_sl ([.ref mo, .long h, .int 130, .int 0]) ++ List.replicate (8 - (lg_sl ([.ref mo, .long h, .int 130, .int 0])).length) Slot.unset).toArray = ls at hl ⊢
  have hl : lv_has ls 8 [(0, .ref mo), (1, .long h), (3, .int 130), (4, .int 0)] := hl
  refine lv_lload_n hx hb dX11_mixed_0 rfl (lv_at hl 1 rfl) ?_
  refine lv_lstore (lv' := [(5, .long h), (0, .ref mo), (1, .long h), (3, .int 130), (4, .int 0)]) hx hb dX11_mixed_1 hl (by decide) rfl (fun ls hl => ?_)
  refine lv_iconst (v := 0) hx hb dX11_mixed_3 (by decide) ?_
  refine lv_istore (lv' := [(7, .int 0), (5, .long h), (0, .ref mo), (1, .long h), (3, .int 130), (4, .int 0)]) hx hb dX11_mixed_4 hl (by decide) rfl (fun ls hl => ?_)
  refine lv_iload hx hb dX11_mixed_6 (lv_at hl 0 rfl) ?_
  refine lv_iload hx hb dX11_mixed_8 (lv_at hl 5 rfl) ?_
  refine lv_icmp_ge (tgt := 38) hx hb dX11_mixed_10 (by decide) (fun c_10 => ?_) (fun c_10 => absurd (by decide) c_10)
  refine lv_lload hx hb dX11_mixed_38 (lv_at hl 1 rfl) ?_
  exact W.lret (v := h) hx hb hr (fun t ht hW => ⟨_, rfl, (rfl), ht⟩) (fun _ h => absurd h List.not_mem_nil) dX11_mixed_40
set_option maxHeartbeats 4000000 in
set_option maxRecDepth 100000 in
theorem c_mixed_250 (l : Launch) (G : gW) (mo : Nat) (st : Nat) (mi : Nat) (mk : Nat) (m6 : Nat) (m7 : Nat) (m9 : Nat) (m10 : Nat) (m15 : Nat) (m16 : Nat) (m17 : Nat) (m18 : Nat) (m19 : Nat) (m20 : Nat) (m21 : Nat) (m22 : Nat) (m23 : Nat) (m24 : Nat) (h : Int64) (j3 : Int64) (j4 : Int64) (i5 : Int32) (i8 : Int32) (i11 : Int32) (i12 : Int32) (i13 : Int32) (i14 : Int32)  : Met l yX11_mixed (wsT yX11_mixed cX11_mixed 8 (some .long)) ({ frames := 0, cells := 0, slots := 0, locals := 0 }) (rP G [.ref mo, .long h, .int 250, .int 0] [(mo, eO 10 [.ref st, .ref mi, .ref mk, .long j3, .long j4, .int i5, .ref m6, .ref m7, .int i8, .ref m9, .ref m10, .int i11, .int i12, .int i13, .int i14, .ref m15, .ref m16, .ref m17, .ref m18, .ref m19, .ref m20, .ref m21, .ref m22, .ref m23, .ref m24]), (st, eI G 2246 st0)]) (rQl (fun r => r = h)) 0 0 fr0 := by
  refine Met.ofW (cc := cX11_mixed) (maxL := 8) (ret := (some .long)) (by decide) rfl ?_
  intro p e s m args below meth c s₁ B hml hv
  obtain ⟨rfl, hP, hG⟩ := hv
  have hx := B.exec
  have hb := B.bytes
  have hr := B.returns
  have hts := my_hts (atoms_spec (ws := wsT yX11_mixed cX11_mixed 8 (some .long)) B.pre)
  have hown : s.vm.findClass RX11 = some m.cls := findClass_of_methodNamed B.named
  have hlocks := B.notSynchronized
  have hP : va_P G.1 vwCl [(mo, eO 10 [.ref st, .ref mi, .ref mk, .long j3, .long j4, .int i5, .ref m6, .ref m7, .int i8, .ref m9, .ref m10, .int i11, .int i12, .int i13, .int i14, .ref m15, .ref m16, .ref m17, .ref m18, .ref m19, .ref m20, .ref m21, .ref m22, .ref m23, .ref m24]), (st, eI G 2246 st0)] s.heap := hP
  have hl := lv_entry ([.ref mo, .long h, .int 250, .int 0]) (n := 8) (Nat.le_of_ble_eq_true rfl)
  rw [lg_entry_eq]
  generalize (lg_sl ([.ref mo, .long h, .int 250, .int 0]) ++ List.replicate (8 - (lg_sl ([.ref mo, .long h, .int 250, .int 0])).length) Slot.unset).toArray = ls at hl ⊢
  have hl : lv_has ls 8 [(0, .ref mo), (1, .long h), (3, .int 250), (4, .int 0)] := hl
  refine lv_lload_n hx hb dX11_mixed_0 rfl (lv_at hl 1 rfl) ?_
  refine lv_lstore (lv' := [(5, .long h), (0, .ref mo), (1, .long h), (3, .int 250), (4, .int 0)]) hx hb dX11_mixed_1 hl (by decide) rfl (fun ls hl => ?_)
  refine lv_iconst (v := 0) hx hb dX11_mixed_3 (by decide) ?_
  refine lv_istore (lv' := [(7, .int 0), (5, .long h), (0, .ref mo), (1, .long h), (3, .int 250), (4, .int 0)]) hx hb dX11_mixed_4 hl (by decide) rfl (fun ls hl => ?_)
  refine lv_iload hx hb dX11_mixed_6 (lv_at hl 0 rfl) ?_
  refine lv_iload hx hb dX11_mixed_8 (lv_at hl 5 rfl) ?_
  refine lv_icmp_ge (tgt := 38) hx hb dX11_mixed_10 (by decide) (fun c_10 => ?_) (fun c_10 => absurd (by decide) c_10)
  refine lv_lload hx hb dX11_mixed_38 (lv_at hl 1 rfl) ?_
  exact W.lret (v := h) hx hb hr (fun t ht hW => ⟨_, rfl, (rfl), ht⟩) (fun _ h => absurd h List.not_mem_nil) dX11_mixed_40
set_option maxHeartbeats 4000000 in
set_option maxRecDepth 100000 in
theorem c_mixed_262 (l : Launch) (G : gW) (mo : Nat) (st : Nat) (mi : Nat) (mk : Nat) (m6 : Nat) (m7 : Nat) (m9 : Nat) (m10 : Nat) (m15 : Nat) (m16 : Nat) (m17 : Nat) (m18 : Nat) (m19 : Nat) (m20 : Nat) (m21 : Nat) (m22 : Nat) (m23 : Nat) (m24 : Nat) (h : Int64) (j3 : Int64) (j4 : Int64) (i5 : Int32) (i8 : Int32) (i11 : Int32) (i12 : Int32) (i13 : Int32) (i14 : Int32)  : Met l yX11_mixed (wsT yX11_mixed cX11_mixed 8 (some .long)) ({ frames := 0, cells := 0, slots := 0, locals := 0 }) (rP G [.ref mo, .long h, .int 262, .int 1] [(mo, eO 10 [.ref st, .ref mi, .ref mk, .long j3, .long j4, .int i5, .ref m6, .ref m7, .int i8, .ref m9, .ref m10, .int i11, .int i12, .int i13, .int i14, .ref m15, .ref m16, .ref m17, .ref m18, .ref m19, .ref m20, .ref m21, .ref m22, .ref m23, .ref m24]), (st, eI G 2246 st0)]) (rQl (fun r => r = 31 * h + 0)) 0 0 fr0 := by
  refine Met.ofW (cc := cX11_mixed) (maxL := 8) (ret := (some .long)) (by decide) rfl ?_
  intro p e s m args below meth c s₁ B hml hv
  obtain ⟨rfl, hP, hG⟩ := hv
  have hx := B.exec
  have hb := B.bytes
  have hr := B.returns
  have hts := my_hts (atoms_spec (ws := wsT yX11_mixed cX11_mixed 8 (some .long)) B.pre)
  have hown : s.vm.findClass RX11 = some m.cls := findClass_of_methodNamed B.named
  have hlocks := B.notSynchronized
  have hP : va_P G.1 vwCl [(mo, eO 10 [.ref st, .ref mi, .ref mk, .long j3, .long j4, .int i5, .ref m6, .ref m7, .int i8, .ref m9, .ref m10, .int i11, .int i12, .int i13, .int i14, .ref m15, .ref m16, .ref m17, .ref m18, .ref m19, .ref m20, .ref m21, .ref m22, .ref m23, .ref m24]), (st, eI G 2246 st0)] s.heap := hP
  have hl := lv_entry ([.ref mo, .long h, .int 262, .int 1]) (n := 8) (Nat.le_of_ble_eq_true rfl)
  rw [lg_entry_eq]
  generalize (lg_sl ([.ref mo, .long h, .int 262, .int 1]) ++ List.replicate (8 - (lg_sl ([.ref mo, .long h, .int 262, .int 1])).length) Slot.unset).toArray = ls at hl ⊢
  have hl : lv_has ls 8 [(0, .ref mo), (1, .long h), (3, .int 262), (4, .int 1)] := hl
  refine lv_lload_n hx hb dX11_mixed_0 rfl (lv_at hl 1 rfl) ?_
  refine lv_lstore (lv' := [(5, .long h), (0, .ref mo), (1, .long h), (3, .int 262), (4, .int 1)]) hx hb dX11_mixed_1 hl (by decide) rfl (fun ls hl => ?_)
  refine lv_iconst (v := 0) hx hb dX11_mixed_3 (by decide) ?_
  refine lv_istore (lv' := [(7, .int 0), (5, .long h), (0, .ref mo), (1, .long h), (3, .int 262), (4, .int 1)]) hx hb dX11_mixed_4 hl (by decide) rfl (fun ls hl => ?_)
  refine lv_iload hx hb dX11_mixed_6 (lv_at hl 0 rfl) ?_
  refine lv_iload hx hb dX11_mixed_8 (lv_at hl 5 rfl) ?_
  refine lv_icmp_ge (tgt := 38) hx hb dX11_mixed_10 (by decide) (fun c_10 => absurd c_10 (by decide)) (fun c_10 => ?_)
  refine lv_ldc2 (v := 31) hx hb hown (hts (.constantLong RX11 261 (31)) w_976) dX11_mixed_13 ?_
  refine lv_lload hx hb dX11_mixed_16 (lv_at hl 1 rfl) ?_
  refine lv_lmul hx hb dX11_mixed_18 ?_
  refine lv_aload_n hx hb dX11_mixed_19 rfl (lv_at hl 2 rfl) ?_
  refine va_get (D := G.1) (ci := 10) (v := .ref st) (C := RX11) (T := TX11) (N := 25) hx hb hts inlX11 hown hG.1 hP 0 rfl rfl 0 (by decide) (hts (.fieldLink RX11 7 "SwornListsModel" "st" "[I") w_112) (fun _ h9 => h9) rfl dX11_mixed_20 ?_
  refine lv_iload_n hx hb dX11_mixed_23 rfl (lv_at hl 4 rfl) ?_
  refine lv_iload hx hb dX11_mixed_24 (lv_at hl 0 rfl) ?_
  refine lv_iadd hx hb dX11_mixed_26 ?_
  refine my_bei (v := 262) (by decide) ?_
  refine va_iald hx hb hG.1 hP 1 0 rfl rfl (by unfold vp_in; decide) dX11_mixed_27 ?_
  refine my_bei (v := 0) (by first | rfl | decide) ?_
  refine lv_i2l (v := 0) hx hb dX11_mixed_28 (by decide) ?_
  refine lv_ladd hx hb dX11_mixed_29 ?_
  refine lv_lstore (lv' := [(5, .long ((31 * h) + 0)), (7, .int 0), (0, .ref mo), (1, .long h), (3, .int 262), (4, .int 1)]) hx hb dX11_mixed_30 hl (by decide) rfl (fun ls hl => ?_)
  refine lv_iinc (v := 1) (lv' := [(7, .int 1), (5, .long ((31 * h) + 0)), (0, .ref mo), (1, .long h), (3, .int 262), (4, .int 1)]) hx hb dX11_mixed_32 hl (k := 1) rfl (by decide) (by decide) rfl (fun ls hl => ?_)
  refine lv_goto (tgt := 6) hx hb dX11_mixed_35 (by decide) ?_
  refine lv_iload hx hb dX11_mixed_6 (lv_at hl 0 rfl) ?_
  refine lv_iload hx hb dX11_mixed_8 (lv_at hl 5 rfl) ?_
  refine lv_icmp_ge (tgt := 38) hx hb dX11_mixed_10 (by decide) (fun c_10 => ?_) (fun c_10 => absurd (by decide) c_10)
  refine lv_lload hx hb dX11_mixed_38 (lv_at hl 1 rfl) ?_
  exact W.lret (v := (31 * h) + 0) hx hb hr (fun t ht hW => ⟨_, rfl, (rfl), ht⟩) (fun _ h => absurd h List.not_mem_nil) dX11_mixed_40
set_option maxHeartbeats 4000000 in
set_option maxRecDepth 100000 in
theorem c_mixed_313 (l : Launch) (G : gW) (mo : Nat) (st : Nat) (mi : Nat) (mk : Nat) (m6 : Nat) (m7 : Nat) (m9 : Nat) (m10 : Nat) (m15 : Nat) (m16 : Nat) (m17 : Nat) (m18 : Nat) (m19 : Nat) (m20 : Nat) (m21 : Nat) (m22 : Nat) (m23 : Nat) (m24 : Nat) (h : Int64) (j3 : Int64) (j4 : Int64) (i5 : Int32) (i8 : Int32) (i11 : Int32) (i12 : Int32) (i13 : Int32) (i14 : Int32)  : Met l yX11_mixed (wsT yX11_mixed cX11_mixed 8 (some .long)) ({ frames := 0, cells := 0, slots := 0, locals := 0 }) (rP G [.ref mo, .long h, .int 313, .int 1] [(mo, eO 10 [.ref st, .ref mi, .ref mk, .long j3, .long j4, .int i5, .ref m6, .ref m7, .int i8, .ref m9, .ref m10, .int i11, .int i12, .int i13, .int i14, .ref m15, .ref m16, .ref m17, .ref m18, .ref m19, .ref m20, .ref m21, .ref m22, .ref m23, .ref m24]), (st, eI G 2246 st0)]) (rQl (fun r => r = 31 * h + 0)) 0 0 fr0 := by
  refine Met.ofW (cc := cX11_mixed) (maxL := 8) (ret := (some .long)) (by decide) rfl ?_
  intro p e s m args below meth c s₁ B hml hv
  obtain ⟨rfl, hP, hG⟩ := hv
  have hx := B.exec
  have hb := B.bytes
  have hr := B.returns
  have hts := my_hts (atoms_spec (ws := wsT yX11_mixed cX11_mixed 8 (some .long)) B.pre)
  have hown : s.vm.findClass RX11 = some m.cls := findClass_of_methodNamed B.named
  have hlocks := B.notSynchronized
  have hP : va_P G.1 vwCl [(mo, eO 10 [.ref st, .ref mi, .ref mk, .long j3, .long j4, .int i5, .ref m6, .ref m7, .int i8, .ref m9, .ref m10, .int i11, .int i12, .int i13, .int i14, .ref m15, .ref m16, .ref m17, .ref m18, .ref m19, .ref m20, .ref m21, .ref m22, .ref m23, .ref m24]), (st, eI G 2246 st0)] s.heap := hP
  have hl := lv_entry ([.ref mo, .long h, .int 313, .int 1]) (n := 8) (Nat.le_of_ble_eq_true rfl)
  rw [lg_entry_eq]
  generalize (lg_sl ([.ref mo, .long h, .int 313, .int 1]) ++ List.replicate (8 - (lg_sl ([.ref mo, .long h, .int 313, .int 1])).length) Slot.unset).toArray = ls at hl ⊢
  have hl : lv_has ls 8 [(0, .ref mo), (1, .long h), (3, .int 313), (4, .int 1)] := hl
  refine lv_lload_n hx hb dX11_mixed_0 rfl (lv_at hl 1 rfl) ?_
  refine lv_lstore (lv' := [(5, .long h), (0, .ref mo), (1, .long h), (3, .int 313), (4, .int 1)]) hx hb dX11_mixed_1 hl (by decide) rfl (fun ls hl => ?_)
  refine lv_iconst (v := 0) hx hb dX11_mixed_3 (by decide) ?_
  refine lv_istore (lv' := [(7, .int 0), (5, .long h), (0, .ref mo), (1, .long h), (3, .int 313), (4, .int 1)]) hx hb dX11_mixed_4 hl (by decide) rfl (fun ls hl => ?_)
  refine lv_iload hx hb dX11_mixed_6 (lv_at hl 0 rfl) ?_
  refine lv_iload hx hb dX11_mixed_8 (lv_at hl 5 rfl) ?_
  refine lv_icmp_ge (tgt := 38) hx hb dX11_mixed_10 (by decide) (fun c_10 => absurd c_10 (by decide)) (fun c_10 => ?_)
  refine lv_ldc2 (v := 31) hx hb hown (hts (.constantLong RX11 261 (31)) w_976) dX11_mixed_13 ?_
  refine lv_lload hx hb dX11_mixed_16 (lv_at hl 1 rfl) ?_
  refine lv_lmul hx hb dX11_mixed_18 ?_
  refine lv_aload_n hx hb dX11_mixed_19 rfl (lv_at hl 2 rfl) ?_
  refine va_get (D := G.1) (ci := 10) (v := .ref st) (C := RX11) (T := TX11) (N := 25) hx hb hts inlX11 hown hG.1 hP 0 rfl rfl 0 (by decide) (hts (.fieldLink RX11 7 "SwornListsModel" "st" "[I") w_112) (fun _ h9 => h9) rfl dX11_mixed_20 ?_
  refine lv_iload_n hx hb dX11_mixed_23 rfl (lv_at hl 4 rfl) ?_
  refine lv_iload hx hb dX11_mixed_24 (lv_at hl 0 rfl) ?_
  refine lv_iadd hx hb dX11_mixed_26 ?_
  refine my_bei (v := 313) (by decide) ?_
  refine va_iald hx hb hG.1 hP 1 0 rfl rfl (by unfold vp_in; decide) dX11_mixed_27 ?_
  refine my_bei (v := 0) (by first | rfl | decide) ?_
  refine lv_i2l (v := 0) hx hb dX11_mixed_28 (by decide) ?_
  refine lv_ladd hx hb dX11_mixed_29 ?_
  refine lv_lstore (lv' := [(5, .long ((31 * h) + 0)), (7, .int 0), (0, .ref mo), (1, .long h), (3, .int 313), (4, .int 1)]) hx hb dX11_mixed_30 hl (by decide) rfl (fun ls hl => ?_)
  refine lv_iinc (v := 1) (lv' := [(7, .int 1), (5, .long ((31 * h) + 0)), (0, .ref mo), (1, .long h), (3, .int 313), (4, .int 1)]) hx hb dX11_mixed_32 hl (k := 1) rfl (by decide) (by decide) rfl (fun ls hl => ?_)
  refine lv_goto (tgt := 6) hx hb dX11_mixed_35 (by decide) ?_
  refine lv_iload hx hb dX11_mixed_6 (lv_at hl 0 rfl) ?_
  refine lv_iload hx hb dX11_mixed_8 (lv_at hl 5 rfl) ?_
  refine lv_icmp_ge (tgt := 38) hx hb dX11_mixed_10 (by decide) (fun c_10 => ?_) (fun c_10 => absurd (by decide) c_10)
  refine lv_lload hx hb dX11_mixed_38 (lv_at hl 1 rfl) ?_
  exact W.lret (v := (31 * h) + 0) hx hb hr (fun t ht hW => ⟨_, rfl, (rfl), ht⟩) (fun _ h => absurd h List.not_mem_nil) dX11_mixed_40
set_option maxHeartbeats 4000000 in
set_option maxRecDepth 100000 in
theorem c_mixed_364 (l : Launch) (G : gW) (mo : Nat) (st : Nat) (mi : Nat) (mk : Nat) (m6 : Nat) (m7 : Nat) (m9 : Nat) (m10 : Nat) (m15 : Nat) (m16 : Nat) (m17 : Nat) (m18 : Nat) (m19 : Nat) (m20 : Nat) (m21 : Nat) (m22 : Nat) (m23 : Nat) (m24 : Nat) (h : Int64) (j3 : Int64) (j4 : Int64) (i5 : Int32) (i8 : Int32) (i11 : Int32) (i12 : Int32) (i13 : Int32) (i14 : Int32)  : Met l yX11_mixed (wsT yX11_mixed cX11_mixed 8 (some .long)) ({ frames := 0, cells := 0, slots := 0, locals := 0 }) (rP G [.ref mo, .long h, .int 364, .int 1] [(mo, eO 10 [.ref st, .ref mi, .ref mk, .long j3, .long j4, .int i5, .ref m6, .ref m7, .int i8, .ref m9, .ref m10, .int i11, .int i12, .int i13, .int i14, .ref m15, .ref m16, .ref m17, .ref m18, .ref m19, .ref m20, .ref m21, .ref m22, .ref m23, .ref m24]), (st, eI G 2246 st0)]) (rQl (fun r => r = 31 * h + 0)) 0 0 fr0 := by
  refine Met.ofW (cc := cX11_mixed) (maxL := 8) (ret := (some .long)) (by decide) rfl ?_
  intro p e s m args below meth c s₁ B hml hv
  obtain ⟨rfl, hP, hG⟩ := hv
  have hx := B.exec
  have hb := B.bytes
  have hr := B.returns
  have hts := my_hts (atoms_spec (ws := wsT yX11_mixed cX11_mixed 8 (some .long)) B.pre)
  have hown : s.vm.findClass RX11 = some m.cls := findClass_of_methodNamed B.named
  have hlocks := B.notSynchronized
  have hP : va_P G.1 vwCl [(mo, eO 10 [.ref st, .ref mi, .ref mk, .long j3, .long j4, .int i5, .ref m6, .ref m7, .int i8, .ref m9, .ref m10, .int i11, .int i12, .int i13, .int i14, .ref m15, .ref m16, .ref m17, .ref m18, .ref m19, .ref m20, .ref m21, .ref m22, .ref m23, .ref m24]), (st, eI G 2246 st0)] s.heap := hP
  have hl := lv_entry ([.ref mo, .long h, .int 364, .int 1]) (n := 8) (Nat.le_of_ble_eq_true rfl)
  rw [lg_entry_eq]
  generalize (lg_sl ([.ref mo, .long h, .int 364, .int 1]) ++ List.replicate (8 - (lg_sl ([.ref mo, .long h, .int 364, .int 1])).length) Slot.unset).toArray = ls at hl ⊢
  have hl : lv_has ls 8 [(0, .ref mo), (1, .long h), (3, .int 364), (4, .int 1)] := hl
  refine lv_lload_n hx hb dX11_mixed_0 rfl (lv_at hl 1 rfl) ?_
  refine lv_lstore (lv' := [(5, .long h), (0, .ref mo), (1, .long h), (3, .int 364), (4, .int 1)]) hx hb dX11_mixed_1 hl (by decide) rfl (fun ls hl => ?_)
  refine lv_iconst (v := 0) hx hb dX11_mixed_3 (by decide) ?_
  refine lv_istore (lv' := [(7, .int 0), (5, .long h), (0, .ref mo), (1, .long h), (3, .int 364), (4, .int 1)]) hx hb dX11_mixed_4 hl (by decide) rfl (fun ls hl => ?_)
  refine lv_iload hx hb dX11_mixed_6 (lv_at hl 0 rfl) ?_
  refine lv_iload hx hb dX11_mixed_8 (lv_at hl 5 rfl) ?_
  refine lv_icmp_ge (tgt := 38) hx hb dX11_mixed_10 (by decide) (fun c_10 => absurd c_10 (by decide)) (fun c_10 => ?_)
  refine lv_ldc2 (v := 31) hx hb hown (hts (.constantLong RX11 261 (31)) w_976) dX11_mixed_13 ?_
  refine lv_lload hx hb dX11_mixed_16 (lv_at hl 1 rfl) ?_
  refine lv_lmul hx hb dX11_mixed_18 ?_
  refine lv_aload_n hx hb dX11_mixed_19 rfl (lv_at hl 2 rfl) ?_
  refine va_get (D := G.1) (ci := 10) (v := .ref st) (C := RX11) (T := TX11) (N := 25) hx hb hts inlX11 hown hG.1 hP 0 rfl rfl 0 (by decide) (hts (.fieldLink RX11 7 "SwornListsModel" "st" "[I") w_112) (fun _ h9 => h9) rfl dX11_mixed_20 ?_
  refine lv_iload_n hx hb dX11_mixed_23 rfl (lv_at hl 4 rfl) ?_
  refine lv_iload hx hb dX11_mixed_24 (lv_at hl 0 rfl) ?_
  refine lv_iadd hx hb dX11_mixed_26 ?_
  refine my_bei (v := 364) (by decide) ?_
  refine va_iald hx hb hG.1 hP 1 0 rfl rfl (by unfold vp_in; decide) dX11_mixed_27 ?_
  refine my_bei (v := 0) (by first | rfl | decide) ?_
  refine lv_i2l (v := 0) hx hb dX11_mixed_28 (by decide) ?_
  refine lv_ladd hx hb dX11_mixed_29 ?_
  refine lv_lstore (lv' := [(5, .long ((31 * h) + 0)), (7, .int 0), (0, .ref mo), (1, .long h), (3, .int 364), (4, .int 1)]) hx hb dX11_mixed_30 hl (by decide) rfl (fun ls hl => ?_)
  refine lv_iinc (v := 1) (lv' := [(7, .int 1), (5, .long ((31 * h) + 0)), (0, .ref mo), (1, .long h), (3, .int 364), (4, .int 1)]) hx hb dX11_mixed_32 hl (k := 1) rfl (by decide) (by decide) rfl (fun ls hl => ?_)
  refine lv_goto (tgt := 6) hx hb dX11_mixed_35 (by decide) ?_
  refine lv_iload hx hb dX11_mixed_6 (lv_at hl 0 rfl) ?_
  refine lv_iload hx hb dX11_mixed_8 (lv_at hl 5 rfl) ?_
  refine lv_icmp_ge (tgt := 38) hx hb dX11_mixed_10 (by decide) (fun c_10 => ?_) (fun c_10 => absurd (by decide) c_10)
  refine lv_lload hx hb dX11_mixed_38 (lv_at hl 1 rfl) ?_
  exact W.lret (v := (31 * h) + 0) hx hb hr (fun t ht hW => ⟨_, rfl, (rfl), ht⟩) (fun _ h => absurd h List.not_mem_nil) dX11_mixed_40
set_option maxHeartbeats 4000000 in
set_option maxRecDepth 100000 in
theorem c_mixed_415 (l : Launch) (G : gW) (mo : Nat) (st : Nat) (mi : Nat) (mk : Nat) (m6 : Nat) (m7 : Nat) (m9 : Nat) (m10 : Nat) (m15 : Nat) (m16 : Nat) (m17 : Nat) (m18 : Nat) (m19 : Nat) (m20 : Nat) (m21 : Nat) (m22 : Nat) (m23 : Nat) (m24 : Nat) (h : Int64) (j3 : Int64) (j4 : Int64) (i5 : Int32) (i8 : Int32) (i11 : Int32) (i12 : Int32) (i13 : Int32) (i14 : Int32)  : Met l yX11_mixed (wsT yX11_mixed cX11_mixed 8 (some .long)) ({ frames := 0, cells := 0, slots := 0, locals := 0 }) (rP G [.ref mo, .long h, .int 415, .int 1] [(mo, eO 10 [.ref st, .ref mi, .ref mk, .long j3, .long j4, .int i5, .ref m6, .ref m7, .int i8, .ref m9, .ref m10, .int i11, .int i12, .int i13, .int i14, .ref m15, .ref m16, .ref m17, .ref m18, .ref m19, .ref m20, .ref m21, .ref m22, .ref m23, .ref m24]), (st, eI G 2246 st0)]) (rQl (fun r => r = 31 * h + 0)) 0 0 fr0 := by
  refine Met.ofW (cc := cX11_mixed) (maxL := 8) (ret := (some .long)) (by decide) rfl ?_
  intro p e s m args below meth c s₁ B hml hv
  obtain ⟨rfl, hP, hG⟩ := hv
  have hx := B.exec
  have hb := B.bytes
  have hr := B.returns
  have hts := my_hts (atoms_spec (ws := wsT yX11_mixed cX11_mixed 8 (some .long)) B.pre)
  have hown : s.vm.findClass RX11 = some m.cls := findClass_of_methodNamed B.named
  have hlocks := B.notSynchronized
  have hP : va_P G.1 vwCl [(mo, eO 10 [.ref st, .ref mi, .ref mk, .long j3, .long j4, .int i5, .ref m6, .ref m7, .int i8, .ref m9, .ref m10, .int i11, .int i12, .int i13, .int i14, .ref m15, .ref m16, .ref m17, .ref m18, .ref m19, .ref m20, .ref m21, .ref m22, .ref m23, .ref m24]), (st, eI G 2246 st0)] s.heap := hP
  have hl := lv_entry ([.ref mo, .long h, .int 415, .int 1]) (n := 8) (Nat.le_of_ble_eq_true rfl)
  rw [lg_entry_eq]
  generalize (lg_sl ([.ref mo, .long h, .int 415, .int 1]) ++ List.replicate (8 - (lg_sl ([.ref mo, .long h, .int 415, .int 1])).length) Slot.unset).toArray = ls at hl ⊢
  have hl : lv_has ls 8 [(0, .ref mo), (1, .long h), (3, .int 415), (4, .int 1)] := hl
  refine lv_lload_n hx hb dX11_mixed_0 rfl (lv_at hl 1 rfl) ?_
  refine lv_lstore (lv' := [(5, .long h), (0, .ref mo), (1, .long h), (3, .int 415), (4, .int 1)]) hx hb dX11_mixed_1 hl (by decide) rfl (fun ls hl => ?_)
  refine lv_iconst (v := 0) hx hb dX11_mixed_3 (by decide) ?_
  refine lv_istore (lv' := [(7, .int 0), (5, .long h), (0, .ref mo), (1, .long h), (3, .int 415), (4, .int 1)]) hx hb dX11_mixed_4 hl (by decide) rfl (fun ls hl => ?_)
  refine lv_iload hx hb dX11_mixed_6 (lv_at hl 0 rfl) ?_
  refine lv_iload hx hb dX11_mixed_8 (lv_at hl 5 rfl) ?_
  refine lv_icmp_ge (tgt := 38) hx hb dX11_mixed_10 (by decide) (fun c_10 => absurd c_10 (by decide)) (fun c_10 => ?_)
  refine lv_ldc2 (v := 31) hx hb hown (hts (.constantLong RX11 261 (31)) w_976) dX11_mixed_13 ?_
  refine lv_lload hx hb dX11_mixed_16 (lv_at hl 1 rfl) ?_
  refine lv_lmul hx hb dX11_mixed_18 ?_
  refine lv_aload_n hx hb dX11_mixed_19 rfl (lv_at hl 2 rfl) ?_
  refine va_get (D := G.1) (ci := 10) (v := .ref st) (C := RX11) (T := TX11) (N := 25) hx hb hts inlX11 hown hG.1 hP 0 rfl rfl 0 (by decide) (hts (.fieldLink RX11 7 "SwornListsModel" "st" "[I") w_112) (fun _ h9 => h9) rfl dX11_mixed_20 ?_
  refine lv_iload_n hx hb dX11_mixed_23 rfl (lv_at hl 4 rfl) ?_
  refine lv_iload hx hb dX11_mixed_24 (lv_at hl 0 rfl) ?_
  refine lv_iadd hx hb dX11_mixed_26 ?_
  refine my_bei (v := 415) (by decide) ?_
  refine va_iald hx hb hG.1 hP 1 0 rfl rfl (by unfold vp_in; decide) dX11_mixed_27 ?_
  refine my_bei (v := 0) (by first | rfl | decide) ?_
  refine lv_i2l (v := 0) hx hb dX11_mixed_28 (by decide) ?_
  refine lv_ladd hx hb dX11_mixed_29 ?_
  refine lv_lstore (lv' := [(5, .long ((31 * h) + 0)), (7, .int 0), (0, .ref mo), (1, .long h), (3, .int 415), (4, .int 1)]) hx hb dX11_mixed_30 hl (by decide) rfl (fun ls hl => ?_)
  refine lv_iinc (v := 1) (lv' := [(7, .int 1), (5, .long ((31 * h) + 0)), (0, .ref mo), (1, .long h), (3, .int 415), (4, .int 1)]) hx hb dX11_mixed_32 hl (k := 1) rfl (by decide) (by decide) rfl (fun ls hl => ?_)
  refine lv_goto (tgt := 6) hx hb dX11_mixed_35 (by decide) ?_
  refine lv_iload hx hb dX11_mixed_6 (lv_at hl 0 rfl) ?_
  refine lv_iload hx hb dX11_mixed_8 (lv_at hl 5 rfl) ?_
  refine lv_icmp_ge (tgt := 38) hx hb dX11_mixed_10 (by decide) (fun c_10 => ?_) (fun c_10 => absurd (by decide) c_10)
  refine lv_lload hx hb dX11_mixed_38 (lv_at hl 1 rfl) ?_
  exact W.lret (v := (31 * h) + 0) hx hb hr (fun t ht hW => ⟨_, rfl, (rfl), ht⟩) (fun _ h => absurd h List.not_mem_nil) dX11_mixed_40
set_option maxHeartbeats 4000000 in
set_option maxRecDepth 100000 in
theorem c_mixed_5 (l : Launch) (G : gW) (mo : Nat) (st : Nat) (mi : Nat) (mk : Nat) (m6 : Nat) (m7 : Nat) (m9 : Nat) (m10 : Nat) (m15 : Nat) (m16 : Nat) (m17 : Nat) (m18 : Nat) (m19 : Nat) (m20 : Nat) (m21 : Nat) (m22 : Nat) (m23 : Nat) (m24 : Nat) (h : Int64) (j3 : Int64) (j4 : Int64) (i5 : Int32) (i8 : Int32) (i11 : Int32) (i12 : Int32) (i13 : Int32) (i14 : Int32)  : Met l yX11_mixed (wsT yX11_mixed cX11_mixed 8 (some .long)) ({ frames := 0, cells := 0, slots := 0, locals := 0 }) (rP G [.ref mo, .long h, .int 5, .int 2] [(mo, eO 10 [.ref st, .ref mi, .ref mk, .long j3, .long j4, .int i5, .ref m6, .ref m7, .int i8, .ref m9, .ref m10, .int i11, .int i12, .int i13, .int i14, .ref m15, .ref m16, .ref m17, .ref m18, .ref m19, .ref m20, .ref m21, .ref m22, .ref m23, .ref m24]), (st, eI G 2246 st0)]) (rQl (fun r => r = 31 * (31 * h + 5) + 20)) 0 0 fr0 := by
  refine Met.ofW (cc := cX11_mixed) (maxL := 8) (ret := (some .long)) (by decide) rfl ?_
  intro p e s m args below meth c s₁ B hml hv
  obtain ⟨rfl, hP, hG⟩ := hv
  have hx := B.exec
  have hb := B.bytes
  have hr := B.returns
  have hts := my_hts (atoms_spec (ws := wsT yX11_mixed cX11_mixed 8 (some .long)) B.pre)
  have hown : s.vm.findClass RX11 = some m.cls := findClass_of_methodNamed B.named
  have hlocks := B.notSynchronized
  have hP : va_P G.1 vwCl [(mo, eO 10 [.ref st, .ref mi, .ref mk, .long j3, .long j4, .int i5, .ref m6, .ref m7, .int i8, .ref m9, .ref m10, .int i11, .int i12, .int i13, .int i14, .ref m15, .ref m16, .ref m17, .ref m18, .ref m19, .ref m20, .ref m21, .ref m22, .ref m23, .ref m24]), (st, eI G 2246 st0)] s.heap := hP
  have hl := lv_entry ([.ref mo, .long h, .int 5, .int 2]) (n := 8) (Nat.le_of_ble_eq_true rfl)
  rw [lg_entry_eq]
  generalize (lg_sl ([.ref mo, .long h, .int 5, .int 2]) ++ List.replicate (8 - (lg_sl ([.ref mo, .long h, .int 5, .int 2])).length) Slot.unset).toArray = ls at hl ⊢
  have hl : lv_has ls 8 [(0, .ref mo), (1, .long h), (3, .int 5), (4, .int 2)] := hl
  refine lv_lload_n hx hb dX11_mixed_0 rfl (lv_at hl 1 rfl) ?_
  refine lv_lstore (lv' := [(5, .long h), (0, .ref mo), (1, .long h), (3, .int 5), (4, .int 2)]) hx hb dX11_mixed_1 hl (by decide) rfl (fun ls hl => ?_)
  refine lv_iconst (v := 0) hx hb dX11_mixed_3 (by decide) ?_
  refine lv_istore (lv' := [(7, .int 0), (5, .long h), (0, .ref mo), (1, .long h), (3, .int 5), (4, .int 2)]) hx hb dX11_mixed_4 hl (by decide) rfl (fun ls hl => ?_)
  refine lv_iload hx hb dX11_mixed_6 (lv_at hl 0 rfl) ?_
  refine lv_iload hx hb dX11_mixed_8 (lv_at hl 5 rfl) ?_
  refine lv_icmp_ge (tgt := 38) hx hb dX11_mixed_10 (by decide) (fun c_10 => absurd c_10 (by decide)) (fun c_10 => ?_)
  refine lv_ldc2 (v := 31) hx hb hown (hts (.constantLong RX11 261 (31)) w_976) dX11_mixed_13 ?_
  refine lv_lload hx hb dX11_mixed_16 (lv_at hl 1 rfl) ?_
  refine lv_lmul hx hb dX11_mixed_18 ?_
  refine lv_aload_n hx hb dX11_mixed_19 rfl (lv_at hl 2 rfl) ?_
  refine va_get (D := G.1) (ci := 10) (v := .ref st) (C := RX11) (T := TX11) (N := 25) hx hb hts inlX11 hown hG.1 hP 0 rfl rfl 0 (by decide) (hts (.fieldLink RX11 7 "SwornListsModel" "st" "[I") w_112) (fun _ h9 => h9) rfl dX11_mixed_20 ?_
  refine lv_iload_n hx hb dX11_mixed_23 rfl (lv_at hl 4 rfl) ?_
  refine lv_iload hx hb dX11_mixed_24 (lv_at hl 0 rfl) ?_
  refine lv_iadd hx hb dX11_mixed_26 ?_
  refine my_bei (v := 5) (by decide) ?_
  refine va_iald hx hb hG.1 hP 1 0 rfl rfl (by unfold vp_in; decide) dX11_mixed_27 ?_
  refine my_bei (v := 5) (by first | rfl | decide) ?_
  refine lv_i2l (v := 5) hx hb dX11_mixed_28 (by decide) ?_
  refine lv_ladd hx hb dX11_mixed_29 ?_
  refine lv_lstore (lv' := [(5, .long ((31 * h) + 5)), (7, .int 0), (0, .ref mo), (1, .long h), (3, .int 5), (4, .int 2)]) hx hb dX11_mixed_30 hl (by decide) rfl (fun ls hl => ?_)
  refine lv_iinc (v := 1) (lv' := [(7, .int 1), (5, .long ((31 * h) + 5)), (0, .ref mo), (1, .long h), (3, .int 5), (4, .int 2)]) hx hb dX11_mixed_32 hl (k := 1) rfl (by decide) (by decide) rfl (fun ls hl => ?_)
  refine lv_goto (tgt := 6) hx hb dX11_mixed_35 (by decide) ?_
  refine lv_iload hx hb dX11_mixed_6 (lv_at hl 0 rfl) ?_
  refine lv_iload hx hb dX11_mixed_8 (lv_at hl 5 rfl) ?_
  refine lv_icmp_ge (tgt := 38) hx hb dX11_mixed_10 (by decide) (fun c_10 => absurd c_10 (by decide)) (fun c_10 => ?_)
  refine lv_ldc2 (v := 31) hx hb hown (hts (.constantLong RX11 261 (31)) w_976) dX11_mixed_13 ?_
  refine lv_lload hx hb dX11_mixed_16 (lv_at hl 1 rfl) ?_
  refine lv_lmul hx hb dX11_mixed_18 ?_
  refine lv_aload_n hx hb dX11_mixed_19 rfl (lv_at hl 2 rfl) ?_
  refine va_get (D := G.1) (ci := 10) (v := .ref st) (C := RX11) (T := TX11) (N := 25) hx hb hts inlX11 hown hG.1 hP 0 rfl rfl 0 (by decide) (hts (.fieldLink RX11 7 "SwornListsModel" "st" "[I") w_112) (fun _ h9 => h9) rfl dX11_mixed_20 ?_
  refine lv_iload_n hx hb dX11_mixed_23 rfl (lv_at hl 4 rfl) ?_
  refine lv_iload hx hb dX11_mixed_24 (lv_at hl 0 rfl) ?_
  refine lv_iadd hx hb dX11_mixed_26 ?_
  refine my_bei (v := 6) (by decide) ?_
  refine va_iald hx hb hG.1 hP 1 0 rfl rfl (by unfold vp_in; decide) dX11_mixed_27 ?_
  refine my_bei (v := 20) (by first | rfl | decide) ?_
  refine lv_i2l (v := 20) hx hb dX11_mixed_28 (by decide) ?_
  refine lv_ladd hx hb dX11_mixed_29 ?_
  refine lv_lstore (lv' := [(5, .long ((31 * ((31 * h) + 5)) + 20)), (7, .int 1), (0, .ref mo), (1, .long h), (3, .int 5), (4, .int 2)]) hx hb dX11_mixed_30 hl (by decide) rfl (fun ls hl => ?_)
  refine lv_iinc (v := 2) (lv' := [(7, .int 2), (5, .long ((31 * ((31 * h) + 5)) + 20)), (0, .ref mo), (1, .long h), (3, .int 5), (4, .int 2)]) hx hb dX11_mixed_32 hl (k := 1) rfl (by decide) (by decide) rfl (fun ls hl => ?_)
  refine lv_goto (tgt := 6) hx hb dX11_mixed_35 (by decide) ?_
  refine lv_iload hx hb dX11_mixed_6 (lv_at hl 0 rfl) ?_
  refine lv_iload hx hb dX11_mixed_8 (lv_at hl 5 rfl) ?_
  refine lv_icmp_ge (tgt := 38) hx hb dX11_mixed_10 (by decide) (fun c_10 => ?_) (fun c_10 => absurd (by decide) c_10)
  refine lv_lload hx hb dX11_mixed_38 (lv_at hl 1 rfl) ?_
  exact W.lret (v := (31 * ((31 * h) + 5)) + 20) hx hb hr (fun t ht hW => ⟨_, rfl, (rfl), ht⟩) (fun _ h => absurd h List.not_mem_nil) dX11_mixed_40
set_option maxHeartbeats 4000000 in
set_option maxRecDepth 100000 in
theorem c_areApart0 (l : Launch) (G : gW) (mo : Nat) (st : Nat) (mi : Nat) (mk : Nat) (m6 : Nat) (m7 : Nat) (m9 : Nat) (m10 : Nat) (m15 : Nat) (m16 : Nat) (m17 : Nat) (m18 : Nat) (m19 : Nat) (m20 : Nat) (m21 : Nat) (m22 : Nat) (m23 : Nat) (m24 : Nat) (j3 : Int64) (j4 : Int64) (i5 : Int32) (i8 : Int32) (i11 : Int32) (i12 : Int32) (i13 : Int32) (i14 : Int32)  : Met l yX11_areApart (wsT yX11_areApart cX11_areApart 7 (some .boolean)) ({ frames := 0, cells := 0, slots := 0, locals := 0 }) (rP G [.ref mo, .int 0] [(mo, eO 10 [.ref st, .ref mi, .ref mk, .long j3, .long j4, .int i5, .ref m6, .ref m7, .int i8, .ref m9, .ref m10, .int i11, .int i12, .int i13, .int i14, .ref m15, .ref m16, .ref m17, .ref m18, .ref m19, .ref m20, .ref m21, .ref m22, .ref m23, .ref m24])]) (rQi (fun r => r = 1)) 0 0 fr0 := by
  refine Met.ofW (cc := cX11_areApart) (maxL := 7) (ret := (some .boolean)) (by decide) rfl ?_
  intro p e s m args below meth c s₁ B hml hv
  obtain ⟨rfl, hP, hG⟩ := hv
  have hx := B.exec
  have hb := B.bytes
  have hr := B.returns
  have hts := my_hts (atoms_spec (ws := wsT yX11_areApart cX11_areApart 7 (some .boolean)) B.pre)
  have hown : s.vm.findClass RX11 = some m.cls := findClass_of_methodNamed B.named
  have hlocks := B.notSynchronized
  have hP : va_P G.1 vwCl [(mo, eO 10 [.ref st, .ref mi, .ref mk, .long j3, .long j4, .int i5, .ref m6, .ref m7, .int i8, .ref m9, .ref m10, .int i11, .int i12, .int i13, .int i14, .ref m15, .ref m16, .ref m17, .ref m18, .ref m19, .ref m20, .ref m21, .ref m22, .ref m23, .ref m24])] s.heap := hP
  have hl := lv_entry ([.ref mo, .int 0]) (n := 7) (Nat.le_of_ble_eq_true rfl)
  rw [lg_entry_eq]
  generalize (lg_sl ([.ref mo, .int 0]) ++ List.replicate (7 - (lg_sl ([.ref mo, .int 0])).length) Slot.unset).toArray = ls at hl ⊢
  have hl : lv_has ls 7 [(0, .ref mo), (1, .int 0)] := hl
  refine lv_iconst (v := 0) hx hb dX11_areApart_0 (by decide) ?_
  refine lv_istore_n (lv' := [(2, .int 0), (0, .ref mo), (1, .int 0)]) hx hb dX11_areApart_1 rfl hl (by decide) rfl (fun ls hl => ?_)
  refine lv_iload_n hx hb dX11_areApart_2 rfl (lv_at hl 0 rfl) ?_
  refine lv_iload_n hx hb dX11_areApart_3 rfl (lv_at hl 2 rfl) ?_
  refine lv_icmp_ge (tgt := 137) hx hb dX11_areApart_4 (by decide) (fun c_4 => ?_) (fun c_4 => absurd (by decide) c_4)
  refine lv_iconst (v := 1) hx hb dX11_areApart_137 (by decide) ?_
  exact W.zret (v := 1) hx hb hr (rfl) (fun t ht hW => ⟨_, rfl, (rfl), ht⟩) (fun _ h => absurd h List.not_mem_nil) dX11_areApart_138
