theorem le_i32 {a : Nat} {y : Int32} (ha : a < 2 ^ 31) (h : ¬ y < nI a) : (a : Int) ≤ y.toInt := by
  have h2 : ¬ y.toInt < (nI a).toInt := fun z => h (Int32.lt_iff_toInt_lt.mpr z)
  rw [nI_toInt ha] at h2
  omega
theorem i2l_ne {i : Nat} (h1 : 1 ≤ i) (h2 : i < 2 ^ 31) : ¬ Int32.toInt64 (nI i) = 0 := fun z => by
  have h3 := congrArg Int64.toInt z
  rw [Int32.toInt_toInt64, nI_toInt h2] at h3
  have h4 : (0 : Int64).toInt = 0 := by decide
  omega
theorem ok_X2_become : okV yX2_become cX2_become 7 (some .int) 2 := ⟨⟨w_767, w_27, ⟨by decide +kernel, by decide +kernel, by decide +kernel⟩⟩, trivial, w_765, w_766⟩
theorem ok_X2_commonDivisor : okS yX2_commonDivisor cX2_commonDivisor 11 (some .long) 2 := ⟨⟨w_770, w_27, ⟨by decide +kernel, by decide +kernel, by decide +kernel⟩⟩, trivial, w_769, trivial⟩
theorem ok_X10_ways : okS yX10_ways cX10_ways 5 (some .long) 2 := ⟨⟨w_763, w_2, ⟨by decide +kernel, by decide +kernel, by decide +kernel⟩⟩, trivial, w_762, trivial⟩
theorem ok_X9_bestAt : okV yX9_bestAt cX9_bestAt 2 (some .int) 1 := ⟨⟨w_858, w_31, ⟨by decide +kernel, by decide +kernel, by decide +kernel⟩⟩, trivial, w_856, w_857⟩
theorem ok_X9_seek : okV yX9_seek cX9_seek 6 none 2 := ⟨⟨w_823, w_31, ⟨by decide +kernel, by decide +kernel, by decide +kernel⟩⟩, trivial, w_821, w_822⟩
theorem ok_X9_gather : okV yX9_gather cX9_gather 5 none 2 := ⟨⟨w_831, w_31, ⟨by decide +kernel, by decide +kernel, by decide +kernel⟩⟩, trivial, w_829, w_830⟩
theorem ok_X9_longestOf : okV yX9_longestOf cX9_longestOf 2 (some .int) 1 := ⟨⟨w_848, w_31, ⟨by decide +kernel, by decide +kernel, by decide +kernel⟩⟩, trivial, w_846, w_847⟩
theorem ok_X9_sumTo : okV yX9_sumTo cX9_sumTo 4 (some .int) 1 := ⟨⟨w_844, w_31, ⟨by decide +kernel, by decide +kernel, by decide +kernel⟩⟩, trivial, w_842, w_843⟩
theorem ok_X9_fits : okV yX9_fits cX9_fits 8 (some .boolean) 2 := ⟨⟨w_852, w_31, ⟨by decide +kernel, by decide +kernel, by decide +kernel⟩⟩, trivial, w_850, w_851⟩
set_option maxHeartbeats 4000000 in
set_option maxRecDepth 100000 in
theorem f_div (l : Launch) (G : gW) (g : Nat → Nat) (hg : gOK g) (f : Nat → va_E) (n : Int64) (q : Int64)   : Met l yX2_commonDivisor (wsT yX2_commonDivisor cX2_commonDivisor 11 (some .long)) ({ frames := 0, cells := 0, slots := 0, locals := 0 }) (bP G g f [.long n, .long q]) (rQl (fun z9 => True)) 0 0 fr0 := by
  refine Met.ofW (cc := cX2_commonDivisor) (maxL := 11) (ret := (some .long)) (by decide) rfl ?_
  intro p e s m args below meth c s₁ B hml hv
  obtain ⟨rfl, hP, hG⟩ := hv
  have hx := B.exec
  have hb := B.bytes
  have hr := B.returns
  have hts := my_hts (atoms_spec (ws := wsT yX2_commonDivisor cX2_commonDivisor 11 (some .long)) B.pre)
  have hown : s.vm.findClass RX2 = some m.cls := findClass_of_methodNamed B.named
  have hlocks := B.notSynchronized
  have hl := lv_entry ([.long n, .long q]) (n := 11) (Nat.le_of_ble_eq_true rfl)
  rw [lg_entry_eq]
  generalize (lg_sl ([.long n, .long q]) ++ List.replicate (11 - (lg_sl ([.long n, .long q])).length) Slot.unset).toArray = ls at hl ⊢
  have hl : lv_has ls 11 [(0, .long n), (2, .long q)] := hl
  refine lv_lload_n hx hb dX2_commonDivisor_0 rfl (lv_at hl 0 rfl) ?_
  refine lv_lstore (lv' := [(4, .long n), (0, .long n), (2, .long q)]) hx hb dX2_commonDivisor_1 hl (by decide) rfl (fun ls hl => ?_)
  refine lv_lload_n hx hb dX2_commonDivisor_3 rfl (lv_at hl 2 rfl) ?_
  refine lv_lstore (lv' := [(6, .long q), (4, .long n), (0, .long n), (2, .long q)]) hx hb dX2_commonDivisor_4 hl (by decide) rfl (fun ls hl => ?_)
  refine lv_iconst (v := 0) hx hb dX2_commonDivisor_6 (by decide) ?_
  refine lv_istore (lv' := [(8, .int 0), (6, .long q), (4, .long n), (0, .long n), (2, .long q)]) hx hb dX2_commonDivisor_7 hl (by decide) rfl (fun ls hl => ?_)
  have key1 : ∀ (n9_1 : Nat) (u : Int64) (w : Int64) (i : Nat) (ls : Array Slot), (i ≤ 200) → 200 - i < n9_1 → lv_has ls 11 [(4, .long u), (6, .long w), (8, .int (nI i))] → W p l e (headSpec (wsT yX2_commonDivisor cX2_commonDivisor 11 (some .long)) ({ frames := 0, cells := 0, slots := 0, locals := 0 })).room s m ([.long n, .long q] : List Value).toArray below meth c s.heap [] 0 0 (MQ below (rQl (fun z9 => True)) ([.long n, .long q] : List Value).toArray s 0 0 fr0) (F0 m 9 ls []) := by
    intro n9_1
    induction n9_1 with
    | zero => intro u w i ls hi hn9_1; exact absurd hn9_1 (Nat.not_lt_zero _)
    | succ n9_1 ih_1 =>
      intro u w i ls hi hn9_1 hl
      refine lv_iload hx hb dX2_commonDivisor_9 (lv_at hl 2 rfl) ?_
      refine lv_sipush (v := 200) hx hb dX2_commonDivisor_11 (by decide) ?_
      refine lv_icmp_ge (tgt := 45) hx hb dX2_commonDivisor_14 (by decide) (fun c_14 => ?_) (fun c_14 => ?_)
      · refine lv_lload hx hb dX2_commonDivisor_45 (lv_at hl 0 rfl) ?_
        exact W.lret (v := u) hx hb hr (fun t ht hW => ⟨_, rfl, (trivial), ht⟩) (fun _ h => absurd h List.not_mem_nil) dX2_commonDivisor_47
      · have hi9 : i < 200 := Nat.not_le.mp (fun z => c_14 (nI_le z (by omega)))
        refine lv_lload hx hb dX2_commonDivisor_17 (lv_at hl 1 rfl) ?_
        refine lv_lconst (v := 0) hx hb dX2_commonDivisor_19 (by decide) ?_
        refine W.lcmp hx hb dX2_commonDivisor_20 ?_
        refine lv_if_eq (tgt := 45) hx hb dX2_commonDivisor_21 (by decide) (fun c_21 => ?_) (fun c_21 => ?_)
        · refine lv_lload hx hb dX2_commonDivisor_45 (lv_at hl 0 rfl) ?_
          exact W.lret (v := u) hx hb hr (fun t ht hW => ⟨_, rfl, (trivial), ht⟩) (fun _ h => absurd h List.not_mem_nil) dX2_commonDivisor_47
        · refine lv_lload hx hb dX2_commonDivisor_24 (lv_at hl 0 rfl) ?_
          refine lv_lload hx hb dX2_commonDivisor_26 (lv_at hl 1 rfl) ?_
          refine lv_lrem hx hb dX2_commonDivisor_28 (fun z => c_21 ((lg_cmp_eq _ _).mpr z)) ?_
          refine lv_lstore (lv' := [(9, .long (u - u / w * w)), (4, .long u), (6, .long w), (8, .int (nI i))]) hx hb dX2_commonDivisor_29 hl (by decide) rfl (fun ls hl => ?_)
          refine lv_lload hx hb dX2_commonDivisor_31 (lv_at hl 2 rfl) ?_
          refine lv_lstore (lv' := [(4, .long w), (9, .long (u - u / w * w)), (6, .long w), (8, .int (nI i))]) hx hb dX2_commonDivisor_33 hl (by decide) rfl (fun ls hl => ?_)
          refine lv_lload hx hb dX2_commonDivisor_35 (lv_at hl 1 rfl) ?_
          refine lv_lstore (lv' := [(6, .long (u - u / w * w)), (4, .long w), (9, .long (u - u / w * w)), (8, .int (nI i))]) hx hb dX2_commonDivisor_37 hl (by decide) rfl (fun ls hl => ?_)
          refine lv_iinc (v := nI (i + 1)) (lv' := [(8, .int (nI (i + 1))), (6, .long (u - u / w * w)), (4, .long w), (9, .long (u - u / w * w))]) hx hb dX2_commonDivisor_39 hl (k := 3) rfl (nI_1 i) (by decide) rfl (fun ls hl => ?_)
          refine lv_goto (tgt := 9) hx hb dX2_commonDivisor_42 (by decide) ?_
          exact ih_1 w (u - u / w * w) (i + 1) _ (hi9) (by omega) (lv_sub hl [2, 1, 0] rfl)
  exact key1 (200 + 1) n q 0 _ (Nat.zero_le _) (by omega) (lv_sub hl [2, 1, 0] rfl)
set_option maxHeartbeats 4000000 in
set_option maxRecDepth 100000 in
theorem f_become (l : Launch) (G : gW) (g : Nat → Nat) (hg : gOK g) (f : Nat → va_E) (ab : Int64) (be : Int64) (n : Int64) (q : Int64) (hfc6 : f 6 = eO 2 [.long ab, .long be])  : Met l yX2_become (wsT yX2_become cX2_become 7 (some .int)) ({ frames := 1, cells := 0, slots := 0, locals := 30 }) (bP G g f [.ref (g 6), .long n, .long q]) (bQi G g (fun (z9 : Int32) (f' : Nat → va_E) => ∃ ab9 : Int64, ∃ be9 : Int64, f' 6 = eO 2 [.long ab9, .long be9] ∧ ∀ j, j ≠ 6 → f' j = f j)) 0 0 (gA g) := by
  refine Met.ofW (cc := cX2_become) (maxL := 7) (ret := (some .int)) (by decide) rfl ?_
  intro p e s m args below meth c s₁ B hml hv
  obtain ⟨rfl, hP, hG⟩ := hv
  have hx := B.exec
  have hb := B.bytes
  have hr := B.returns
  have hts := my_hts (atoms_spec (ws := wsT yX2_become cX2_become 7 (some .int)) B.pre)
  have hown : s.vm.findClass RX2 = some m.cls := findClass_of_methodNamed B.named
  have hlocks := B.notSynchronized
  have hS : va_S (gA g) s.heap s.heap [] := va_S.rf
  have hl := lv_entry ([.ref (g 6), .long n, .long q]) (n := 7) (Nat.le_of_ble_eq_true rfl)
  rw [lg_entry_eq]
  generalize (lg_sl ([.ref (g 6), .long n, .long q]) ++ List.replicate (7 - (lg_sl ([.ref (g 6), .long n, .long q])).length) Slot.unset).toArray = ls at hl ⊢
  have hl : lv_has ls 7 [(0, .ref (g 6)), (1, .long n), (3, .long q)] := hl
  refine lv_lload_n hx hb dX2_become_0 rfl (lv_at hl 1 rfl) ?_
  refine lv_lload_n hx hb dX2_become_1 rfl (lv_at hl 2 rfl) ?_
  refine rd_calll (va_runS (As := [.long n, .long q]) (rest := []) ⟨hx, hb, hml, hown, hts⟩ (f_div l G g hg f n q  ) (my_cwS hts ok_X2_commonDivisor w_768 rfl rfl ⟨Nat.le_of_ble_eq_true rfl, Nat.le_of_ble_eq_true rfl⟩) ⟨bP.blind, fun U hU hW => ⟨rfl, by rw [hU]; exact hP, kG.warm hW hG⟩⟩ rfl rfl hl.1 rfl (lv_room (Nat.le_of_ble_eq_true rfl)) dX2_become_2 ⟨Nat.le_of_ble_eq_true rfl, Nat.le_of_ble_eq_true rfl⟩) (fun v1 _ => ?_)
  refine lv_lstore (lv' := [(5, .long v1), (0, .ref (g 6)), (1, .long n), (3, .long q)]) hx hb dX2_become_5 hl (by decide) rfl (fun ls hl => ?_)
  refine lv_lload_n hx hb dX2_become_7 rfl (lv_at hl 2 rfl) ?_
  refine lv_lconst (v := 0) hx hb dX2_become_8 (by decide) ?_
  refine W.lcmp hx hb dX2_become_9 ?_
  refine lv_if_le (tgt := 26) hx hb dX2_become_10 (by decide) (fun c_10 => ?_) (fun c_10 => ?_)
  · refine lv_aload_n hx hb dX2_become_26 rfl (lv_at hl 1 rfl) ?_
    refine lv_lconst (v := 0) hx hb dX2_become_27 (by decide) ?_
    refine va_put (D := G.1) (ci := 2) (v := .long 0) (ty := .long) (C := RX2) (T := TX2) (N := 2) hx hb hts inlX2 tyX2 tyX2_ok nmX2 hown hG.1 hP (wl_D hg f) hS 6 (wl_at (by decide) hfc6) rfl 0 (by decide) (hts (.fieldLink RX2 7 "SwornLists$Fraction" "above" "J") w_99) (fun _ h9 => h9) rfl (by decide +kernel) rfl rfl (Nat.le_of_ble_eq_true rfl) dX2_become_28 (fun H locs hP _ hS => ?_)
    obtain ⟨f_1, hP, e_1, o_1⟩ := b_put (by decide) hP
    have hfc6 : f_1 6 = eO 2 [.long 0, .long be] := e_1
    refine lv_aload_n hx hb dX2_become_31 rfl (lv_at hl 1 rfl) ?_
    refine lv_lconst (v := 1) hx hb dX2_become_32 (by decide) ?_
    refine va_put (D := G.1) (ci := 2) (v := .long 1) (ty := .long) (C := RX2) (T := TX2) (N := 2) hx hb hts inlX2 tyX2 tyX2_ok nmX2 hown hG.1 hP (wl_D hg f_1) hS 6 (wl_at (by decide) hfc6) rfl 1 (by decide) (hts (.fieldLink RX2 13 "SwornLists$Fraction" "below" "J") w_100) (fun _ h9 => h9) rfl (by decide +kernel) rfl rfl (Nat.le_of_ble_eq_true rfl) dX2_become_33 (fun H locs hP _ hS => ?_)
    obtain ⟨f_2, hP, e_2, o_2⟩ := b_put (by decide) hP
    have hfc6 : f_2 6 = eO 2 [.long 0, .long 1] := e_2
    refine lv_iconst (v := 0) hx hb dX2_become_36 (by decide) ?_
    exact W.iret (v := 0) hx hb hr (fun t ht hW => ⟨⟨_, f_2, rfl, (⟨0, 1, hfc6, fun j hj => ((o_2 j (by omega))).trans (o_1 j (by omega))⟩), by rw [ht]; exact hP⟩, hS.F ht⟩) hS.2.2 dX2_become_37
  · refine lv_lload_n hx hb dX2_become_13 rfl (lv_at hl 3 rfl) ?_
    refine lv_lconst (v := 0) hx hb dX2_become_14 (by decide) ?_
    refine W.lcmp hx hb dX2_become_15 ?_
    refine lv_if_le (tgt := 26) hx hb dX2_become_16 (by decide) (fun c_16 => ?_) (fun c_16 => ?_)
    · refine lv_aload_n hx hb dX2_become_26 rfl (lv_at hl 1 rfl) ?_
      refine lv_lconst (v := 0) hx hb dX2_become_27 (by decide) ?_
      refine va_put (D := G.1) (ci := 2) (v := .long 0) (ty := .long) (C := RX2) (T := TX2) (N := 2) hx hb hts inlX2 tyX2 tyX2_ok nmX2 hown hG.1 hP (wl_D hg f) hS 6 (wl_at (by decide) hfc6) rfl 0 (by decide) (hts (.fieldLink RX2 7 "SwornLists$Fraction" "above" "J") w_99) (fun _ h9 => h9) rfl (by decide +kernel) rfl rfl (Nat.le_of_ble_eq_true rfl) dX2_become_28 (fun H locs hP _ hS => ?_)
      obtain ⟨f_3, hP, e_3, o_3⟩ := b_put (by decide) hP
      have hfc6 : f_3 6 = eO 2 [.long 0, .long be] := e_3
      refine lv_aload_n hx hb dX2_become_31 rfl (lv_at hl 1 rfl) ?_
      refine lv_lconst (v := 1) hx hb dX2_become_32 (by decide) ?_
      refine va_put (D := G.1) (ci := 2) (v := .long 1) (ty := .long) (C := RX2) (T := TX2) (N := 2) hx hb hts inlX2 tyX2 tyX2_ok nmX2 hown hG.1 hP (wl_D hg f_3) hS 6 (wl_at (by decide) hfc6) rfl 1 (by decide) (hts (.fieldLink RX2 13 "SwornLists$Fraction" "below" "J") w_100) (fun _ h9 => h9) rfl (by decide +kernel) rfl rfl (Nat.le_of_ble_eq_true rfl) dX2_become_33 (fun H locs hP _ hS => ?_)
      obtain ⟨f_4, hP, e_4, o_4⟩ := b_put (by decide) hP
      have hfc6 : f_4 6 = eO 2 [.long 0, .long 1] := e_4
      refine lv_iconst (v := 0) hx hb dX2_become_36 (by decide) ?_
      exact W.iret (v := 0) hx hb hr (fun t ht hW => ⟨⟨_, f_4, rfl, (⟨0, 1, hfc6, fun j hj => ((o_4 j (by omega))).trans (o_3 j (by omega))⟩), by rw [ht]; exact hP⟩, hS.F ht⟩) hS.2.2 dX2_become_37
    · refine lv_lload hx hb dX2_become_19 (lv_at hl 0 rfl) ?_
      refine lv_lconst (v := 0) hx hb dX2_become_21 (by decide) ?_
      refine W.lcmp hx hb dX2_become_22 ?_
      refine lv_if_gt (tgt := 38) hx hb dX2_become_23 (by decide) (fun c_23 => ?_) (fun c_23 => ?_)
      · refine lv_aload_n hx hb dX2_become_38 rfl (lv_at hl 1 rfl) ?_
        refine lv_lload_n hx hb dX2_become_39 rfl (lv_at hl 2 rfl) ?_
        refine lv_lload hx hb dX2_become_40 (lv_at hl 0 rfl) ?_
        refine lv_ldiv hx hb dX2_become_42 (fun z => by rw [z, (lg_cmp_eq _ _).mpr rfl] at c_23; exact absurd c_23 (by decide)) ?_
        refine va_put (D := G.1) (ci := 2) (v := .long (n / v1)) (ty := .long) (C := RX2) (T := TX2) (N := 2) hx hb hts inlX2 tyX2 tyX2_ok nmX2 hown hG.1 hP (wl_D hg f) hS 6 (wl_at (by decide) hfc6) rfl 0 (by decide) (hts (.fieldLink RX2 7 "SwornLists$Fraction" "above" "J") w_99) (fun _ h9 => h9) rfl (by decide +kernel) rfl rfl (Nat.le_of_ble_eq_true rfl) dX2_become_43 (fun H locs hP _ hS => ?_)
        obtain ⟨f_5, hP, e_5, o_5⟩ := b_put (by decide) hP
        have hfc6 : f_5 6 = eO 2 [.long (n / v1), .long be] := e_5
        refine lv_aload_n hx hb dX2_become_46 rfl (lv_at hl 1 rfl) ?_
        refine lv_lload_n hx hb dX2_become_47 rfl (lv_at hl 3 rfl) ?_
        refine lv_lload hx hb dX2_become_48 (lv_at hl 0 rfl) ?_
        refine lv_ldiv hx hb dX2_become_50 (fun z => by rw [z, (lg_cmp_eq _ _).mpr rfl] at c_23; exact absurd c_23 (by decide)) ?_
        refine va_put (D := G.1) (ci := 2) (v := .long (q / v1)) (ty := .long) (C := RX2) (T := TX2) (N := 2) hx hb hts inlX2 tyX2 tyX2_ok nmX2 hown hG.1 hP (wl_D hg f_5) hS 6 (wl_at (by decide) hfc6) rfl 1 (by decide) (hts (.fieldLink RX2 13 "SwornLists$Fraction" "below" "J") w_100) (fun _ h9 => h9) rfl (by decide +kernel) rfl rfl (Nat.le_of_ble_eq_true rfl) dX2_become_51 (fun H locs hP _ hS => ?_)
        obtain ⟨f_6, hP, e_6, o_6⟩ := b_put (by decide) hP
        have hfc6 : f_6 6 = eO 2 [.long (n / v1), .long (q / v1)] := e_6
        refine lv_iconst (v := 1) hx hb dX2_become_54 (by decide) ?_
        exact W.iret (v := 1) hx hb hr (fun t ht hW => ⟨⟨_, f_6, rfl, (⟨(n / v1), (q / v1), hfc6, fun j hj => ((o_6 j (by omega))).trans (o_5 j (by omega))⟩), by rw [ht]; exact hP⟩, hS.F ht⟩) hS.2.2 dX2_become_55
      · refine lv_aload_n hx hb dX2_become_26 rfl (lv_at hl 1 rfl) ?_
        refine lv_lconst (v := 0) hx hb dX2_become_27 (by decide) ?_
        refine va_put (D := G.1) (ci := 2) (v := .long 0) (ty := .long) (C := RX2) (T := TX2) (N := 2) hx hb hts inlX2 tyX2 tyX2_ok nmX2 hown hG.1 hP (wl_D hg f) hS 6 (wl_at (by decide) hfc6) rfl 0 (by decide) (hts (.fieldLink RX2 7 "SwornLists$Fraction" "above" "J") w_99) (fun _ h9 => h9) rfl (by decide +kernel) rfl rfl (Nat.le_of_ble_eq_true rfl) dX2_become_28 (fun H locs hP _ hS => ?_)
        obtain ⟨f_7, hP, e_7, o_7⟩ := b_put (by decide) hP
        have hfc6 : f_7 6 = eO 2 [.long 0, .long be] := e_7
        refine lv_aload_n hx hb dX2_become_31 rfl (lv_at hl 1 rfl) ?_
        refine lv_lconst (v := 1) hx hb dX2_become_32 (by decide) ?_
        refine va_put (D := G.1) (ci := 2) (v := .long 1) (ty := .long) (C := RX2) (T := TX2) (N := 2) hx hb hts inlX2 tyX2 tyX2_ok nmX2 hown hG.1 hP (wl_D hg f_7) hS 6 (wl_at (by decide) hfc6) rfl 1 (by decide) (hts (.fieldLink RX2 13 "SwornLists$Fraction" "below" "J") w_100) (fun _ h9 => h9) rfl (by decide +kernel) rfl rfl (Nat.le_of_ble_eq_true rfl) dX2_become_33 (fun H locs hP _ hS => ?_)
        obtain ⟨f_8, hP, e_8, o_8⟩ := b_put (by decide) hP
        have hfc6 : f_8 6 = eO 2 [.long 0, .long 1] := e_8
        refine lv_iconst (v := 0) hx hb dX2_become_36 (by decide) ?_
        exact W.iret (v := 0) hx hb hr (fun t ht hW => ⟨⟨_, f_8, rfl, (⟨0, 1, hfc6, fun j hj => ((o_8 j (by omega))).trans (o_7 j (by omega))⟩), by rw [ht]; exact hP⟩, hS.F ht⟩) hS.2.2 dX2_become_37
set_option maxHeartbeats 4000000 in
set_option maxRecDepth 100000 in
theorem s_ways (l : Launch) (G : gW) (g : Nat → Nat) (hg : gOK g) (f : Nat → va_E) (n : Int32) (q : Int32)  (hn2 : n.toInt < 2147483647) : Met l yX10_ways (wsT yX10_ways cX10_ways 5 (some .long)) ({ frames := 0, cells := 0, slots := 0, locals := 0 }) (bP G g f [.int n, .int q]) (rQl (fun z9 => True)) 0 0 fr0 := by
  refine Met.ofW (cc := cX10_ways) (maxL := 5) (ret := (some .long)) (by decide) rfl ?_
  intro p e s m args below meth c s₁ B hml hv
  obtain ⟨rfl, hP, hG⟩ := hv
  have hx := B.exec
  have hb := B.bytes
  have hr := B.returns
  have hts := my_hts (atoms_spec (ws := wsT yX10_ways cX10_ways 5 (some .long)) B.pre)
  have hown : s.vm.findClass RX10 = some m.cls := findClass_of_methodNamed B.named
  have hlocks := B.notSynchronized
  have hl := lv_entry ([.int n, .int q]) (n := 5) (Nat.le_of_ble_eq_true rfl)
  rw [lg_entry_eq]
  generalize (lg_sl ([.int n, .int q]) ++ List.replicate (5 - (lg_sl ([.int n, .int q])).length) Slot.unset).toArray = ls at hl ⊢
  have hl : lv_has ls 5 [(0, .int n), (1, .int q)] := hl
  refine lv_iload_n hx hb dX10_ways_0 rfl (lv_at hl 1 rfl) ?_
  refine lv_if_lt (tgt := 9) hx hb dX10_ways_1 (by decide) (fun c_1 => ?_) (fun c_1 => ?_)
  · refine lv_lconst (v := 0) hx hb dX10_ways_9 (by decide) ?_
    exact W.lret (v := 0) hx hb hr (fun t ht hW => ⟨_, rfl, (trivial), ht⟩) (fun _ h => absurd h List.not_mem_nil) dX10_ways_10
  · refine lv_iload_n hx hb dX10_ways_4 rfl (lv_at hl 1 rfl) ?_
    refine lv_iload_n hx hb dX10_ways_5 rfl (lv_at hl 0 rfl) ?_
    refine lv_icmp_le (tgt := 11) hx hb dX10_ways_6 (by decide) (fun c_6 => ?_) (fun c_6 => ?_)
    · have hqn := Int32.le_iff_toInt_le.mp c_6
      refine lv_lconst (v := 1) hx hb dX10_ways_11 (by decide) ?_
      refine lv_lstore_n (lv' := [(2, .long 1), (0, .int n), (1, .int q)]) hx hb dX10_ways_12 rfl hl (by decide) rfl (fun ls hl => ?_)
      refine lv_iconst (v := 1) hx hb dX10_ways_13 (by decide) ?_
      refine lv_istore (lv' := [(4, .int 1), (2, .long 1), (0, .int n), (1, .int q)]) hx hb dX10_ways_14 hl (by decide) rfl (fun ls hl => ?_)
      have key1 : ∀ (n9_1 : Nat) (i : Nat) (u : Int64) (ls : Array Slot), (1 ≤ i) → (i ≤ 2147483647) → 2147483648 - i < n9_1 → lv_has ls 5 [(0, .int n), (1, .int q), (2, .long u), (4, .int (nI i))] → W p l e (headSpec (wsT yX10_ways cX10_ways 5 (some .long)) ({ frames := 0, cells := 0, slots := 0, locals := 0 })).room s m ([.int n, .int q] : List Value).toArray below meth c s.heap [] 0 0 (MQ below (rQl (fun z9 => True)) ([.int n, .int q] : List Value).toArray s 0 0 fr0) (F0 m 16 ls []) := by
        intro n9_1
        induction n9_1 with
        | zero => intro i u ls h1 h2 hn9_1; exact absurd hn9_1 (Nat.not_lt_zero _)
        | succ n9_1 ih_1 =>
          intro i u ls h1 h2 hn9_1 hl
          refine lv_iload hx hb dX10_ways_16 (lv_at hl 3 rfl) ?_
          refine lv_iload_n hx hb dX10_ways_18 rfl (lv_at hl 1 rfl) ?_
          refine lv_icmp_gt (tgt := 42) hx hb dX10_ways_19 (by decide) (fun c_19 => ?_) (fun c_19 => ?_)
          · refine lv_lload_n hx hb dX10_ways_42 rfl (lv_at hl 2 rfl) ?_
            exact W.lret (v := u) hx hb hr (fun t ht hW => ⟨_, rfl, (trivial), ht⟩) (fun _ h => absurd h List.not_mem_nil) dX10_ways_43
          · have hle := le_i32 (by omega) c_19
            refine lv_lload_n hx hb dX10_ways_22 rfl (lv_at hl 2 rfl) ?_
            refine lv_iload_n hx hb dX10_ways_23 rfl (lv_at hl 0 rfl) ?_
            refine lv_iload_n hx hb dX10_ways_24 rfl (lv_at hl 1 rfl) ?_
            refine lv_isub hx hb dX10_ways_25 ?_
            refine lv_iload hx hb dX10_ways_26 (lv_at hl 3 rfl) ?_
            refine lv_iadd hx hb dX10_ways_28 ?_
            refine lv_i2l hx hb dX10_ways_29 rfl ?_
            refine lv_lmul hx hb dX10_ways_30 ?_
            refine lv_iload hx hb dX10_ways_31 (lv_at hl 3 rfl) ?_
            refine lv_i2l hx hb dX10_ways_33 rfl ?_
            refine lv_ldiv hx hb dX10_ways_34 (i2l_ne (by omega) (by omega)) ?_
            refine lv_lstore_n (lv' := [(2, .long ((u * (Int32.toInt64 ((n - q) + (nI i)))) / (Int32.toInt64 (nI i)))), (0, .int n), (1, .int q), (4, .int (nI i))]) hx hb dX10_ways_35 rfl hl (by decide) rfl (fun ls hl => ?_)
            refine lv_iinc (v := nI (i + 1)) (lv' := [(4, .int (nI (i + 1))), (2, .long ((u * (Int32.toInt64 ((n - q) + (nI i)))) / (Int32.toInt64 (nI i)))), (0, .int n), (1, .int q)]) hx hb dX10_ways_36 hl (k := 3) rfl (nI_1 i) (by decide) rfl (fun ls hl => ?_)
            refine lv_goto (tgt := 16) hx hb dX10_ways_39 (by decide) ?_
            exact ih_1 (i + 1) ((u * (Int32.toInt64 ((n - q) + (nI i)))) / (Int32.toInt64 (nI i))) _ (by omega) (by omega) (by omega) (lv_sub hl [2, 3, 1, 0] rfl)
      exact key1 (2147483648 + 1) 1 1 _ (by omega) (by omega) (by omega) (lv_sub hl [2, 3, 1, 0] rfl)
    · refine lv_lconst (v := 0) hx hb dX10_ways_9 (by decide) ?_
      exact W.lret (v := 0) hx hb hr (fun t ht hW => ⟨_, rfl, (trivial), ht⟩) (fun _ h => absurd h List.not_mem_nil) dX10_ways_10
set_option maxHeartbeats 4000000 in
set_option maxRecDepth 100000 in
theorem v_bestAt (l : Launch) (G : gW) (g : Nat → Nat) (hg : gOK g) (f : Nat → va_E) (mn : Nat) (le : Int32) (wb : Nat → Int32) (n : Int32) (hwt : f 7 = eO 8 [.ref (g 8), .ref (g 9), .ref (g 10), .ref (g 11), .int (nI mn), .int le]) (hw10 : f 10 = eI G 6 wb) (hmn : mn ≤ 6) : Met l yX9_bestAt (wsT yX9_bestAt cX9_bestAt 2 (some .int)) ({ frames := 0, cells := 0, slots := 0, locals := 0 }) (bP G g f [.ref (g 7), .int n]) (rQi (fun z9 => True)) 0 0 fr0 := by
  refine Met.ofW (cc := cX9_bestAt) (maxL := 2) (ret := (some .int)) (by decide) rfl ?_
  intro p e s m args below meth c s₁ B hml hv
  obtain ⟨rfl, hP, hG⟩ := hv
  have hx := B.exec
  have hb := B.bytes
  have hr := B.returns
  have hts := my_hts (atoms_spec (ws := wsT yX9_bestAt cX9_bestAt 2 (some .int)) B.pre)
  have hown : s.vm.findClass RX9 = some m.cls := findClass_of_methodNamed B.named
  have hlocks := B.notSynchronized
  have hl := lv_entry ([.ref (g 7), .int n]) (n := 2) (Nat.le_of_ble_eq_true rfl)
  rw [lg_entry_eq]
  generalize (lg_sl ([.ref (g 7), .int n]) ++ List.replicate (2 - (lg_sl ([.ref (g 7), .int n])).length) Slot.unset).toArray = ls at hl ⊢
  have hl : lv_has ls 2 [(0, .ref (g 7)), (1, .int n)] := hl
  refine lv_iload_n hx hb dX9_bestAt_0 rfl (lv_at hl 1 rfl) ?_
  refine lv_if_lt (tgt := 21) hx hb dX9_bestAt_1 (by decide) (fun c_1 => ?_) (fun c_1 => ?_)
  · refine lv_iconst (v := 0) hx hb dX9_bestAt_21 (by decide) ?_
    exact W.iret (v := 0) hx hb hr (fun t ht hW => ⟨_, rfl, (trivial), ht⟩) (fun _ h => absurd h List.not_mem_nil) dX9_bestAt_22
  · refine lv_iload_n hx hb dX9_bestAt_4 rfl (lv_at hl 1 rfl) ?_
    refine lv_aload_n hx hb dX9_bestAt_5 rfl (lv_at hl 0 rfl) ?_
    refine va_get (D := G.1) (ci := 8) (v := .int (nI mn)) (C := RX9) (T := TX9) (N := 6) hx hb hts inlX9 hown hG.1 hP 7 (wl_at (by decide) hwt) rfl 4 (by decide) (hts (.fieldLink RX9 24 "SwornLists$Waits" "many" "I") w_824) (fun _ h9 => h9) rfl dX9_bestAt_6 ?_
    refine lv_icmp_ge (tgt := 21) hx hb dX9_bestAt_9 (by decide) (fun c_9 => ?_) (fun c_9 => ?_)
    · refine lv_iconst (v := 0) hx hb dX9_bestAt_21 (by decide) ?_
      exact W.iret (v := 0) hx hb hr (fun t ht hW => ⟨_, rfl, (trivial), ht⟩) (fun _ h => absurd h List.not_mem_nil) dX9_bestAt_22
    · refine lv_aload_n hx hb dX9_bestAt_12 rfl (lv_at hl 0 rfl) ?_
      refine va_get (D := G.1) (ci := 8) (v := .ref (g 10)) (C := RX9) (T := TX9) (N := 6) hx hb hts inlX9 hown hG.1 hP 7 (wl_at (by decide) hwt) rfl 2 (by decide) (hts (.fieldLink RX9 18 "SwornLists$Waits" "best" "[I") w_106) (fun _ h9 => h9) rfl dX9_bestAt_13 ?_
      refine lv_iload_n hx hb dX9_bestAt_16 rfl (lv_at hl 1 rfl) ?_
      refine va_iald hx hb hG.1 hP 10 0 (wl_at (by decide) hw10) rfl (inN_vp (inN_t (by omega) c_1 c_9) hmn (by decide)) dX9_bestAt_17 ?_
      refine lv_goto (tgt := 22) hx hb dX9_bestAt_18 (by decide) ?_
      exact W.iret (v := wb (Int32.toNatClampNeg n)) hx hb hr (fun t ht hW => ⟨_, rfl, (trivial), ht⟩) (fun _ h => absurd h List.not_mem_nil) dX9_bestAt_22
set_option maxHeartbeats 4000000 in
set_option maxRecDepth 100000 in
theorem v_longestOf (l : Launch) (G : gW) (g : Nat → Nat) (hg : gOK g) (f : Nat → va_E) (mn : Nat) (le : Int32) (wf : Nat → Int32) (a : Nat) (hwt : f 7 = eO 8 [.ref (g 8), .ref (g 9), .ref (g 10), .ref (g 11), .int (nI mn), .int le]) (hw11 : f 11 = eI G 6 wf) (hmn : mn ≤ 6) (ha : a < 6) : Met l yX9_longestOf (wsT yX9_longestOf cX9_longestOf 2 (some .int)) ({ frames := 0, cells := 0, slots := 0, locals := 0 }) (bP G g f [.ref (g 7), .int (nI a)]) (rQi (fun z9 => True)) 0 0 fr0 := by
  refine Met.ofW (cc := cX9_longestOf) (maxL := 2) (ret := (some .int)) (by decide) rfl ?_
  intro p e s m args below meth c s₁ B hml hv
  obtain ⟨rfl, hP, hG⟩ := hv
  have hx := B.exec
  have hb := B.bytes
  have hr := B.returns
  have hts := my_hts (atoms_spec (ws := wsT yX9_longestOf cX9_longestOf 2 (some .int)) B.pre)
  have hown : s.vm.findClass RX9 = some m.cls := findClass_of_methodNamed B.named
  have hlocks := B.notSynchronized
  have hl := lv_entry ([.ref (g 7), .int (nI a)]) (n := 2) (Nat.le_of_ble_eq_true rfl)
  rw [lg_entry_eq]
  generalize (lg_sl ([.ref (g 7), .int (nI a)]) ++ List.replicate (2 - (lg_sl ([.ref (g 7), .int (nI a)])).length) Slot.unset).toArray = ls at hl ⊢
  have hl : lv_has ls 2 [(0, .ref (g 7)), (1, .int (nI a))] := hl
  refine lv_aload_n hx hb dX9_longestOf_0 rfl (lv_at hl 0 rfl) ?_
  refine va_get (D := G.1) (ci := 8) (v := .ref (g 11)) (C := RX9) (T := TX9) (N := 6) hx hb hts inlX9 hown hG.1 hP 7 (wl_at (by decide) hwt) rfl 3 (by decide) (hts (.fieldLink RX9 21 "SwornLists$Waits" "foes" "[I") w_107) (fun _ h9 => h9) rfl dX9_longestOf_1 ?_
  refine lv_iload_n hx hb dX9_longestOf_4 rfl (lv_at hl 1 rfl) ?_
  refine va_iald hx hb hG.1 hP 11 0 (wl_at (by decide) hw11) rfl (vp_in_nI (by omega) (by decide)) dX9_longestOf_5 ?_
  refine lv_if_ne (tgt := 13) hx hb dX9_longestOf_6 (by decide) (fun c_6 => ?_) (fun c_6 => ?_)
  · refine lv_iconst (v := 5) hx hb dX9_longestOf_13 (by decide) ?_
    exact W.iret (v := 5) hx hb hr (fun t ht hW => ⟨_, rfl, (trivial), ht⟩) (fun _ h => absurd h List.not_mem_nil) dX9_longestOf_14
  · refine lv_iconst (v := 0) hx hb dX9_longestOf_9 (by decide) ?_
    refine lv_goto (tgt := 14) hx hb dX9_longestOf_10 (by decide) ?_
    exact W.iret (v := 0) hx hb hr (fun t ht hW => ⟨_, rfl, (trivial), ht⟩) (fun _ h => absurd h List.not_mem_nil) dX9_longestOf_14
set_option maxHeartbeats 4000000 in
set_option maxRecDepth 100000 in
theorem v_sumTo (l : Launch) (G : gW) (g : Nat → Nat) (hg : gOK g) (f : Nat → va_E) (mn : Nat) (le : Int32) (ww : Nat → Int32) (a : Nat) (hwt : f 7 = eO 8 [.ref (g 8), .ref (g 9), .ref (g 10), .ref (g 11), .int (nI mn), .int le]) (hw9 : f 9 = eI G 6 ww) (hmn : mn ≤ 6) (ha : a < 6) : Met l yX9_sumTo (wsT yX9_sumTo cX9_sumTo 4 (some .int)) ({ frames := 0, cells := 0, slots := 0, locals := 0 }) (bP G g f [.ref (g 7), .int (nI a)]) (rQi (fun z9 => True)) 0 0 fr0 := by
  refine Met.ofW (cc := cX9_sumTo) (maxL := 4) (ret := (some .int)) (by decide) rfl ?_
  intro p e s m args below meth c s₁ B hml hv
  obtain ⟨rfl, hP, hG⟩ := hv
  have hx := B.exec
  have hb := B.bytes
  have hr := B.returns
  have hts := my_hts (atoms_spec (ws := wsT yX9_sumTo cX9_sumTo 4 (some .int)) B.pre)
  have hown : s.vm.findClass RX9 = some m.cls := findClass_of_methodNamed B.named
  have hlocks := B.notSynchronized
  have hl := lv_entry ([.ref (g 7), .int (nI a)]) (n := 4) (Nat.le_of_ble_eq_true rfl)
  rw [lg_entry_eq]
  generalize (lg_sl ([.ref (g 7), .int (nI a)]) ++ List.replicate (4 - (lg_sl ([.ref (g 7), .int (nI a)])).length) Slot.unset).toArray = ls at hl ⊢
  have hl : lv_has ls 4 [(0, .ref (g 7)), (1, .int (nI a))] := hl
  refine lv_iconst (v := 0) hx hb dX9_sumTo_0 (by decide) ?_
  refine lv_istore_n (lv' := [(2, .int 0), (0, .ref (g 7)), (1, .int (nI a))]) hx hb dX9_sumTo_1 rfl hl (by decide) rfl (fun ls hl => ?_)
  refine lv_iconst (v := 0) hx hb dX9_sumTo_2 (by decide) ?_
  refine lv_istore_n (lv' := [(3, .int 0), (2, .int 0), (0, .ref (g 7)), (1, .int (nI a))]) hx hb dX9_sumTo_3 rfl hl (by decide) rfl (fun ls hl => ?_)
  have key1 : ∀ (n9_1 : Nat) (i : Nat) (u : Int32) (ls : Array Slot), (i ≤ a + 1) → a + 1 - i < n9_1 → lv_has ls 4 [(0, .ref (g 7)), (1, .int (nI a)), (2, .int u), (3, .int (nI i))] → W p l e (headSpec (wsT yX9_sumTo cX9_sumTo 4 (some .int)) ({ frames := 0, cells := 0, slots := 0, locals := 0 })).room s m ([.ref (g 7), .int (nI a)] : List Value).toArray below meth c s.heap [] 0 0 (MQ below (rQi (fun z9 => True)) ([.ref (g 7), .int (nI a)] : List Value).toArray s 0 0 fr0) (F0 m 4 ls []) := by
    intro n9_1
    induction n9_1 with
    | zero => intro i u ls hi hn9_1; exact absurd hn9_1 (Nat.not_lt_zero _)
    | succ n9_1 ih_1 =>
      intro i u ls hi hn9_1 hl
      refine lv_iload_n hx hb dX9_sumTo_4 rfl (lv_at hl 3 rfl) ?_
      refine lv_iload_n hx hb dX9_sumTo_5 rfl (lv_at hl 1 rfl) ?_
      refine lv_icmp_gt (tgt := 24) hx hb dX9_sumTo_6 (by decide) (fun c_6 => ?_) (fun c_6 => ?_)
      · refine lv_iload_n hx hb dX9_sumTo_24 rfl (lv_at hl 2 rfl) ?_
        exact W.iret (v := u) hx hb hr (fun t ht hW => ⟨_, rfl, (trivial), ht⟩) (fun _ h => absurd h List.not_mem_nil) dX9_sumTo_25
      · have hi9 : i ≤ a := Nat.not_lt.mp (fun z => c_6 (nI_lt z (by omega)))
        refine lv_iload_n hx hb dX9_sumTo_9 rfl (lv_at hl 2 rfl) ?_
        refine lv_aload_n hx hb dX9_sumTo_10 rfl (lv_at hl 0 rfl) ?_
        refine va_get (D := G.1) (ci := 8) (v := .ref (g 9)) (C := RX9) (T := TX9) (N := 6) hx hb hts inlX9 hown hG.1 hP 7 (wl_at (by decide) hwt) rfl 1 (by decide) (hts (.fieldLink RX9 15 "SwornLists$Waits" "waits" "[I") w_105) (fun _ h9 => h9) rfl dX9_sumTo_11 ?_
        refine lv_iload_n hx hb dX9_sumTo_14 rfl (lv_at hl 3 rfl) ?_
        refine va_iald hx hb hG.1 hP 9 0 (wl_at (by decide) hw9) rfl (vp_in_nI (by omega) (by decide)) dX9_sumTo_15 ?_
        refine lv_iadd hx hb dX9_sumTo_16 ?_
        refine lv_istore_n (lv' := [(2, .int (u + (ww (Int32.toNatClampNeg (nI i))))), (0, .ref (g 7)), (1, .int (nI a)), (3, .int (nI i))]) hx hb dX9_sumTo_17 rfl hl (by decide) rfl (fun ls hl => ?_)
        refine lv_iinc (v := nI (i + 1)) (lv' := [(3, .int (nI (i + 1))), (2, .int (u + (ww (Int32.toNatClampNeg (nI i))))), (0, .ref (g 7)), (1, .int (nI a))]) hx hb dX9_sumTo_18 hl (k := 3) rfl (nI_1 i) (by decide) rfl (fun ls hl => ?_)
        refine lv_goto (tgt := 4) hx hb dX9_sumTo_21 (by decide) ?_
        exact ih_1 (i + 1) (u + (ww (Int32.toNatClampNeg (nI i)))) _ (by omega) (by omega) (lv_sub hl [2, 3, 1, 0] rfl)
  exact key1 ((a + 1) + 1) 0 0 _ (Nat.zero_le _) (by omega) (lv_sub hl [2, 3, 1, 0] rfl)
set_option maxHeartbeats 4000000 in
set_option maxRecDepth 100000 in
theorem v_fits (l : Launch) (G : gW) (g : Nat → Nat) (hg : gOK g) (f : Nat → va_E) (mn : Nat) (le : Int32) (wt : Nat → Int32) (ww : Nat → Int32) (wf : Nat → Int32) (pay : Int32) (fine : Int32) (nt : Nat) (ct : Nat → Int32) (a : Nat) (hwt : f 7 = eO 8 [.ref (g 8), .ref (g 9), .ref (g 10), .ref (g 11), .int (nI mn), .int le]) (hw8 : f 8 = eI G 6 wt) (hw9 : f 9 = eI G 6 ww) (hw11 : f 11 = eI G 6 wf) (hbk : f 36 = eO 0 [.ref (g 37), .ref (g 39), .ref (g 41), .ref (g 43), .ref (g 45), .ref (g 47), .ref (g 112), .int pay, .int fine]) (htr : f 45 = eO 5 [.int (nI 10), .int (nI 70), .ref (g 46), .int (nI nt)]) (hct : f 46 = eI G (10 * 70) ct) (hmn : mn ≤ 6) (hnt : nt ≤ 10) (ha : a < 6) : Met l yX9_fits (wsT yX9_fits cX9_fits 8 (some .boolean)) ({ frames := 2, cells := 0, slots := 0, locals := 44 }) (bP G g f [.ref (g 7), .ref (g 36), .int (nI a)]) (rQi (fun z9 => ∃ bz : Bool, z9 = b2 (bz = true))) 0 0 fr0 := by
  refine Met.ofW (cc := cX9_fits) (maxL := 8) (ret := (some .boolean)) (by decide) rfl ?_
  intro p e s m args below meth c s₁ B hml hv
  obtain ⟨rfl, hP, hG⟩ := hv
  have hx := B.exec
  have hb := B.bytes
  have hr := B.returns
  have hts := my_hts (atoms_spec (ws := wsT yX9_fits cX9_fits 8 (some .boolean)) B.pre)
  have hown : s.vm.findClass RX9 = some m.cls := findClass_of_methodNamed B.named
  have hlocks := B.notSynchronized
  have hl := lv_entry ([.ref (g 7), .ref (g 36), .int (nI a)]) (n := 8) (Nat.le_of_ble_eq_true rfl)
  rw [lg_entry_eq]
  generalize (lg_sl ([.ref (g 7), .ref (g 36), .int (nI a)]) ++ List.replicate (8 - (lg_sl ([.ref (g 7), .ref (g 36), .int (nI a)])).length) Slot.unset).toArray = ls at hl ⊢
  have hl : lv_has ls 8 [(0, .ref (g 7)), (1, .ref (g 36)), (2, .int (nI a))] := hl
  refine lv_aload_n hx hb dX9_fits_0 rfl (lv_at hl 1 rfl) ?_
  refine va_getN (D := G.1) (ci := 0) (v := .ref (g 45)) (C := RX0) (T := TX0) (N := 9) (host := RX10) hx hb hts inlX0 hown hG.1 hP 36 (wl_at (by decide) hbk) rfl 4 (by decide) (va_Nw.use rfl (hG.2.1 (.fieldLinkNest RX9 53 RX0 "trials" "LSwornLists$Rows;" RX10) (List.mem_of_getElem? (i := 5) rfl))) (fun _ h9 => h9) rfl dX9_fits_1 ?_
  refine lv_aload_n hx hb dX9_fits_4 rfl (lv_at hl 0 rfl) ?_
  refine va_get (D := G.1) (ci := 8) (v := .ref (g 8)) (C := RX9) (T := TX9) (N := 6) hx hb hts inlX9 hown hG.1 hP 7 (wl_at (by decide) hwt) rfl 0 (by decide) (hts (.fieldLink RX9 11 "SwornLists$Waits" "trials" "[I") w_104) (fun _ h9 => h9) rfl dX9_fits_5 ?_
  refine lv_iload_n hx hb dX9_fits_8 rfl (lv_at hl 2 rfl) ?_
  refine va_iald hx hb hG.1 hP 8 0 (wl_at (by decide) hw8) rfl (vp_in_nI (by omega) (by decide)) dX9_fits_9 ?_
  refine lv_iconst (v := 0) hx hb dX9_fits_10 (by decide) ?_
  refine rd_calli (va_runV (As := [.int (wt (Int32.toNatClampNeg (nI a))), .int 0]) (rest := []) ⟨hx, hb, hml, hown, hts⟩ (r_at l G g hg f 45 10 70 nt ct (wt (Int32.toNatClampNeg (nI a))) 0 htr hct (by first | assumption | omega | decide) (by first | assumption | omega | decide) (by first | assumption | omega | decide) (by first | assumption | omega | decide)) (my_cwV hts ok_X5_at w_853 rfl rfl ⟨Nat.le_of_ble_eq_true rfl, Nat.le_of_ble_eq_true rfl⟩) ⟨bP.blind, va_recv hG.1 hP (ci := 5) (q0 := 45) rfl (wl_at (by decide) htr), fun U hU hW => ⟨rfl, by rw [hU]; exact hP, kG.warm hW hG⟩⟩ rfl rfl hl.1 rfl (lv_room (Nat.le_of_ble_eq_true rfl)) dX9_fits_11 ⟨Nat.le_of_ble_eq_true rfl, Nat.le_of_ble_eq_true rfl⟩) (fun r hr9 => ?_)
  subst hr9
  refine lv_aload_n hx hb dX9_fits_14 rfl (lv_at hl 0 rfl) ?_
  refine va_get (D := G.1) (ci := 8) (v := .ref (g 9)) (C := RX9) (T := TX9) (N := 6) hx hb hts inlX9 hown hG.1 hP 7 (wl_at (by decide) hwt) rfl 1 (by decide) (hts (.fieldLink RX9 15 "SwornLists$Waits" "waits" "[I") w_105) (fun _ h9 => h9) rfl dX9_fits_15 ?_
  refine lv_iload_n hx hb dX9_fits_18 rfl (lv_at hl 2 rfl) ?_
  refine va_iald hx hb hG.1 hP 9 0 (wl_at (by decide) hw9) rfl (vp_in_nI (by omega) (by decide)) dX9_fits_19 ?_
  refine lv_iadd hx hb dX9_fits_20 ?_
  refine lv_istore_n (lv' := [(3, .int ((atv ct nt 70 (wt (Int32.toNatClampNeg (nI a))) 0) + (ww (Int32.toNatClampNeg (nI a))))), (0, .ref (g 7)), (1, .ref (g 36)), (2, .int (nI a))]) hx hb dX9_fits_21 rfl hl (by decide) rfl (fun ls hl => ?_)
  refine lv_aload_n hx hb dX9_fits_22 rfl (lv_at hl 2 rfl) ?_
  refine lv_aload_n hx hb dX9_fits_23 rfl (lv_at hl 1 rfl) ?_
  refine va_get (D := G.1) (ci := 8) (v := .ref (g 8)) (C := RX9) (T := TX9) (N := 6) hx hb hts inlX9 hown hG.1 hP 7 (wl_at (by decide) hwt) rfl 0 (by decide) (hts (.fieldLink RX9 11 "SwornLists$Waits" "trials" "[I") w_104) (fun _ h9 => h9) rfl dX9_fits_24 ?_
  refine lv_iload_n hx hb dX9_fits_27 rfl (lv_at hl 3 rfl) ?_
  refine va_iald hx hb hG.1 hP 8 0 (wl_at (by decide) hw8) rfl (vp_in_nI (by omega) (by decide)) dX9_fits_28 ?_
  refine rd_calli (va_runV (As := [.int (wt (Int32.toNatClampNeg (nI a)))]) (rest := []) ⟨hx, hb, hml, hown, hts⟩ (k_lastDayOf l G g hg f pay fine nt ct (wt (Int32.toNatClampNeg (nI a))) hbk htr hct (by first | assumption | omega | decide)) (my_cwV hts ok_X0_lastDayOf w_854 rfl rfl ⟨Nat.le_of_ble_eq_true rfl, Nat.le_of_ble_eq_true rfl⟩) ⟨bP.blind, va_recv hG.1 hP (ci := 0) (q0 := 36) rfl (wl_at (by decide) hbk), fun U hU hW => ⟨rfl, by rw [hU]; exact hP, kG.warm hW hG⟩⟩ rfl rfl hl.1 rfl (lv_room (Nat.le_of_ble_eq_true rfl)) dX9_fits_29 ⟨Nat.le_of_ble_eq_true rfl, Nat.le_of_ble_eq_true rfl⟩) (fun v1 _ => ?_)
  refine lv_aload_n hx hb dX9_fits_32 rfl (lv_at hl 1 rfl) ?_
  refine va_get (D := G.1) (ci := 8) (v := .ref (g 9)) (C := RX9) (T := TX9) (N := 6) hx hb hts inlX9 hown hG.1 hP 7 (wl_at (by decide) hwt) rfl 1 (by decide) (hts (.fieldLink RX9 15 "SwornLists$Waits" "waits" "[I") w_105) (fun _ h9 => h9) rfl dX9_fits_33 ?_
  refine lv_iload_n hx hb dX9_fits_36 rfl (lv_at hl 3 rfl) ?_
  refine va_iald hx hb hG.1 hP 9 0 (wl_at (by decide) hw9) rfl (vp_in_nI (by omega) (by decide)) dX9_fits_37 ?_
  refine lv_iadd hx hb dX9_fits_38 ?_
  refine lv_istore (lv' := [(4, .int (v1 + (ww (Int32.toNatClampNeg (nI a))))), (3, .int ((atv ct nt 70 (wt (Int32.toNatClampNeg (nI a))) 0) + (ww (Int32.toNatClampNeg (nI a))))), (0, .ref (g 7)), (1, .ref (g 36)), (2, .int (nI a))]) hx hb dX9_fits_39 hl (by decide) rfl (fun ls hl => ?_)
  refine lv_iconst (v := 0) hx hb dX9_fits_41 (by decide) ?_
  refine lv_istore (lv' := [(5, .int 0), (4, .int (v1 + (ww (Int32.toNatClampNeg (nI a))))), (3, .int ((atv ct nt 70 (wt (Int32.toNatClampNeg (nI a))) 0) + (ww (Int32.toNatClampNeg (nI a))))), (0, .ref (g 7)), (1, .ref (g 36)), (2, .int (nI a))]) hx hb dX9_fits_42 hl (by decide) rfl (fun ls hl => ?_)
  have key2 : ∀ (n9_2 : Nat) (u : Int32) (w : Int32) (i : Nat) (ls : Array Slot), (i ≤ a) → a - i < n9_2 → lv_has ls 8 [(0, .ref (g 7)), (1, .ref (g 36)), (2, .int (nI a)), (3, .int u), (4, .int w), (5, .int (nI i))] → W p l e (headSpec (wsT yX9_fits cX9_fits 8 (some .boolean)) ({ frames := 2, cells := 0, slots := 0, locals := 44 })).room s m ([.ref (g 7), .ref (g 36), .int (nI a)] : List Value).toArray below meth c s.heap [] 0 0 (MQ below (rQi (fun z9 => ∃ bz : Bool, z9 = b2 (bz = true))) ([.ref (g 7), .ref (g 36), .int (nI a)] : List Value).toArray s 0 0 fr0) (F0 m 44 ls []) := by
    intro n9_2
    induction n9_2 with
    | zero => intro u w i ls hi hn9_2; exact absurd hn9_2 (Nat.not_lt_zero _)
    | succ n9_2 ih_2 =>
      intro u w i ls hi hn9_2 hl
      refine lv_iload hx hb dX9_fits_44 (lv_at hl 5 rfl) ?_
      refine lv_iload_n hx hb dX9_fits_46 rfl (lv_at hl 2 rfl) ?_
      refine lv_icmp_ge (tgt := 147) hx hb dX9_fits_47 (by decide) (fun c_47 => ?_) (fun c_47 => ?_)
      · refine lv_iconst (v := 1) hx hb dX9_fits_147 (by decide) ?_
        exact W.zret (v := 1) hx hb hr (rfl) (fun t ht hW => ⟨_, rfl, (⟨true, (b2_t rfl).symm⟩), ht⟩) (fun _ h => absurd h List.not_mem_nil) dX9_fits_148
      · have hi9 : i < a := Nat.not_le.mp (fun z => c_47 (nI_le z (by omega)))
        refine lv_aload_n hx hb dX9_fits_50 rfl (lv_at hl 1 rfl) ?_
        refine lv_aload_n hx hb dX9_fits_51 rfl (lv_at hl 0 rfl) ?_
        refine va_get (D := G.1) (ci := 8) (v := .ref (g 8)) (C := RX9) (T := TX9) (N := 6) hx hb hts inlX9 hown hG.1 hP 7 (wl_at (by decide) hwt) rfl 0 (by decide) (hts (.fieldLink RX9 11 "SwornLists$Waits" "trials" "[I") w_104) (fun _ h9 => h9) rfl dX9_fits_52 ?_
        refine lv_iload hx hb dX9_fits_55 (lv_at hl 5 rfl) ?_
        refine va_iald hx hb hG.1 hP 8 0 (wl_at (by decide) hw8) rfl (vp_in_nI (by omega) (by decide)) dX9_fits_57 ?_
        refine rd_calli (va_runV (As := [.int (wt (Int32.toNatClampNeg (nI i)))]) (rest := []) ⟨hx, hb, hml, hown, hts⟩ (k_lastDayOf l G g hg f pay fine nt ct (wt (Int32.toNatClampNeg (nI i))) hbk htr hct (by first | assumption | omega | decide)) (my_cwV hts ok_X0_lastDayOf w_854 rfl rfl ⟨Nat.le_of_ble_eq_true rfl, Nat.le_of_ble_eq_true rfl⟩) ⟨bP.blind, va_recv hG.1 hP (ci := 0) (q0 := 36) rfl (wl_at (by decide) hbk), fun U hU hW => ⟨rfl, by rw [hU]; exact hP, kG.warm hW hG⟩⟩ rfl rfl hl.1 rfl (lv_room (Nat.le_of_ble_eq_true rfl)) dX9_fits_58 ⟨Nat.le_of_ble_eq_true rfl, Nat.le_of_ble_eq_true rfl⟩) (fun v3 _ => ?_)
        refine lv_aload_n hx hb dX9_fits_61 rfl (lv_at hl 0 rfl) ?_
        refine va_get (D := G.1) (ci := 8) (v := .ref (g 9)) (C := RX9) (T := TX9) (N := 6) hx hb hts inlX9 hown hG.1 hP 7 (wl_at (by decide) hwt) rfl 1 (by decide) (hts (.fieldLink RX9 15 "SwornLists$Waits" "waits" "[I") w_105) (fun _ h9 => h9) rfl dX9_fits_62 ?_
        refine lv_iload hx hb dX9_fits_65 (lv_at hl 5 rfl) ?_
        refine va_iald hx hb hG.1 hP 9 0 (wl_at (by decide) hw9) rfl (vp_in_nI (by omega) (by decide)) dX9_fits_67 ?_
        refine lv_iadd hx hb dX9_fits_68 ?_
        refine lv_iload_n hx hb dX9_fits_69 rfl (lv_at hl 3 rfl) ?_
        refine lv_icmp_ge (tgt := 77) hx hb dX9_fits_70 (by decide) (fun c_70 => ?_) (fun c_70 => ?_)
        · refine lv_iconst (v := 0) hx hb dX9_fits_77 (by decide) ?_
          refine lv_istore (lv' := [(6, .int 0), (0, .ref (g 7)), (1, .ref (g 36)), (2, .int (nI a)), (3, .int u), (4, .int w), (5, .int (nI i))]) hx hb dX9_fits_78 hl (by decide) rfl (fun ls hl => ?_)
          refine lv_aload_n hx hb dX9_fits_80 rfl (lv_at hl 2 rfl) ?_
          refine va_getN (D := G.1) (ci := 0) (v := .ref (g 45)) (C := RX0) (T := TX0) (N := 9) (host := RX10) hx hb hts inlX0 hown hG.1 hP 36 (wl_at (by decide) hbk) rfl 4 (by decide) (va_Nw.use rfl (hG.2.1 (.fieldLinkNest RX9 53 RX0 "trials" "LSwornLists$Rows;" RX10) (List.mem_of_getElem? (i := 5) rfl))) (fun _ h9 => h9) rfl dX9_fits_81 ?_
          refine lv_aload_n hx hb dX9_fits_84 rfl (lv_at hl 1 rfl) ?_
          refine va_get (D := G.1) (ci := 8) (v := .ref (g 8)) (C := RX9) (T := TX9) (N := 6) hx hb hts inlX9 hown hG.1 hP 7 (wl_at (by decide) hwt) rfl 0 (by decide) (hts (.fieldLink RX9 11 "SwornLists$Waits" "trials" "[I") w_104) (fun _ h9 => h9) rfl dX9_fits_85 ?_
          refine lv_iload hx hb dX9_fits_88 (lv_at hl 6 rfl) ?_
          refine va_iald hx hb hG.1 hP 8 0 (wl_at (by decide) hw8) rfl (vp_in_nI (by omega) (by decide)) dX9_fits_90 ?_
          refine lv_iconst (v := 0) hx hb dX9_fits_91 (by decide) ?_
          refine rd_calli (va_runV (As := [.int (wt (Int32.toNatClampNeg (nI i))), .int 0]) (rest := []) ⟨hx, hb, hml, hown, hts⟩ (r_at l G g hg f 45 10 70 nt ct (wt (Int32.toNatClampNeg (nI i))) 0 htr hct (by first | assumption | omega | decide) (by first | assumption | omega | decide) (by first | assumption | omega | decide) (by first | assumption | omega | decide)) (my_cwV hts ok_X5_at w_853 rfl rfl ⟨Nat.le_of_ble_eq_true rfl, Nat.le_of_ble_eq_true rfl⟩) ⟨bP.blind, va_recv hG.1 hP (ci := 5) (q0 := 45) rfl (wl_at (by decide) htr), fun U hU hW => ⟨rfl, by rw [hU]; exact hP, kG.warm hW hG⟩⟩ rfl rfl hl.1 rfl (lv_room (Nat.le_of_ble_eq_true rfl)) dX9_fits_92 ⟨Nat.le_of_ble_eq_true rfl, Nat.le_of_ble_eq_true rfl⟩) (fun r hr9 => ?_)
          subst hr9
          refine lv_aload_n hx hb dX9_fits_95 rfl (lv_at hl 1 rfl) ?_
          refine va_get (D := G.1) (ci := 8) (v := .ref (g 9)) (C := RX9) (T := TX9) (N := 6) hx hb hts inlX9 hown hG.1 hP 7 (wl_at (by decide) hwt) rfl 1 (by decide) (hts (.fieldLink RX9 15 "SwornLists$Waits" "waits" "[I") w_105) (fun _ h9 => h9) rfl dX9_fits_96 ?_
          refine lv_iload hx hb dX9_fits_99 (lv_at hl 6 rfl) ?_
          refine va_iald hx hb hG.1 hP 9 0 (wl_at (by decide) hw9) rfl (vp_in_nI (by omega) (by decide)) dX9_fits_101 ?_
          refine lv_iadd hx hb dX9_fits_102 ?_
          refine lv_iload hx hb dX9_fits_103 (lv_at hl 5 rfl) ?_
          refine lv_icmp_le (tgt := 112) hx hb dX9_fits_105 (by decide) (fun c_105 => ?_) (fun c_105 => ?_)
          · refine lv_iconst (v := 0) hx hb dX9_fits_112 (by decide) ?_
            refine lv_istore (lv' := [(7, .int 0), (6, .int 0), (0, .ref (g 7)), (1, .ref (g 36)), (2, .int (nI a)), (3, .int u), (4, .int w), (5, .int (nI i))]) hx hb dX9_fits_113 hl (by decide) rfl (fun ls hl => ?_)
            refine lv_aload_n hx hb dX9_fits_115 rfl (lv_at hl 2 rfl) ?_
            refine va_get (D := G.1) (ci := 8) (v := .ref (g 11)) (C := RX9) (T := TX9) (N := 6) hx hb hts inlX9 hown hG.1 hP 7 (wl_at (by decide) hwt) rfl 3 (by decide) (hts (.fieldLink RX9 21 "SwornLists$Waits" "foes" "[I") w_107) (fun _ h9 => h9) rfl dX9_fits_116 ?_
            refine lv_iload_n hx hb dX9_fits_119 rfl (lv_at hl 4 rfl) ?_
            refine va_iald hx hb hG.1 hP 11 0 (wl_at (by decide) hw11) rfl (vp_in_nI (by omega) (by decide)) dX9_fits_120 ?_
            refine lv_iload hx hb dX9_fits_121 (lv_at hl 7 rfl) ?_
            refine rd_calli (va_runSN (As := [.int (wf (Int32.toNatClampNeg (nI a))), .int (nI i)]) (rest := []) ⟨hx, hb, hml, hown, hts⟩ (s_hasBit l G g hg f (wf (Int32.toNatClampNeg (nI a))) (nI i)  ) (⟨my_cn hts ok_X10_hasBit.1 (hG.2.1 (.methodLinkNest RX9 64 yX10_hasBit RX10) (List.mem_of_getElem? (i := 35) rfl)) rfl rfl ⟨Nat.le_of_ble_eq_true rfl, Nat.le_of_ble_eq_true rfl⟩, hts _ ok_X10_hasBit.2.2.1, trivial⟩) ⟨bP.blind, fun U hU hW => ⟨rfl, by rw [hU]; exact hP, kG.warm hW hG⟩⟩ rfl rfl hl.1 rfl (lv_room (Nat.le_of_ble_eq_true rfl)) dX9_fits_123 ⟨Nat.le_of_ble_eq_true rfl, Nat.le_of_ble_eq_true rfl⟩) (fun r hr9 => ?_)
            subst hr9
            refine my_ifeq (tgt := 141) hx hb dX9_fits_126 (by decide) (fun c_126 => ?_) (fun c_126 => ?_)
            · refine lv_iinc (v := nI (i + 1)) (lv' := [(5, .int (nI (i + 1))), (7, .int 0), (6, .int 0), (0, .ref (g 7)), (1, .ref (g 36)), (2, .int (nI a)), (3, .int u), (4, .int w)]) hx hb dX9_fits_141 hl (k := 7) rfl (nI_1 i) (by decide) rfl (fun ls hl => ?_)
              refine lv_goto (tgt := 44) hx hb dX9_fits_144 (by decide) ?_
              exact ih_2 u w (i + 1) _ (hi9) (by omega) (lv_sub hl [3, 4, 5, 6, 7, 0] rfl)
            · refine lv_iload hx hb dX9_fits_129 (lv_at hl 1 rfl) ?_
              refine lv_if_ne (tgt := 141) hx hb dX9_fits_131 (by decide) (fun c_131 => absurd (by decide) c_131) (fun c_131 => ?_)
              refine lv_iload hx hb dX9_fits_134 (lv_at hl 0 rfl) ?_
              refine lv_if_ne (tgt := 141) hx hb dX9_fits_136 (by decide) (fun c_136 => absurd (by decide) c_136) (fun c_136 => ?_)
              refine lv_iconst (v := 0) hx hb dX9_fits_139 (by decide) ?_
              exact W.zret (v := 0) hx hb hr (rfl) (fun t ht hW => ⟨_, rfl, (⟨false, (b2_f (by decide)).symm⟩), ht⟩) (fun _ h => absurd h List.not_mem_nil) dX9_fits_140
          · refine lv_iconst (v := 1) hx hb dX9_fits_108 (by decide) ?_
            refine lv_goto (tgt := 113) hx hb dX9_fits_109 (by decide) ?_
            refine lv_istore (lv' := [(7, .int 1), (6, .int 0), (0, .ref (g 7)), (1, .ref (g 36)), (2, .int (nI a)), (3, .int u), (4, .int w), (5, .int (nI i))]) hx hb dX9_fits_113 hl (by decide) rfl (fun ls hl => ?_)
            refine lv_aload_n hx hb dX9_fits_115 rfl (lv_at hl 2 rfl) ?_
            refine va_get (D := G.1) (ci := 8) (v := .ref (g 11)) (C := RX9) (T := TX9) (N := 6) hx hb hts inlX9 hown hG.1 hP 7 (wl_at (by decide) hwt) rfl 3 (by decide) (hts (.fieldLink RX9 21 "SwornLists$Waits" "foes" "[I") w_107) (fun _ h9 => h9) rfl dX9_fits_116 ?_
            refine lv_iload_n hx hb dX9_fits_119 rfl (lv_at hl 4 rfl) ?_
            refine va_iald hx hb hG.1 hP 11 0 (wl_at (by decide) hw11) rfl (vp_in_nI (by omega) (by decide)) dX9_fits_120 ?_
            refine lv_iload hx hb dX9_fits_121 (lv_at hl 7 rfl) ?_
            refine rd_calli (va_runSN (As := [.int (wf (Int32.toNatClampNeg (nI a))), .int (nI i)]) (rest := []) ⟨hx, hb, hml, hown, hts⟩ (s_hasBit l G g hg f (wf (Int32.toNatClampNeg (nI a))) (nI i)  ) (⟨my_cn hts ok_X10_hasBit.1 (hG.2.1 (.methodLinkNest RX9 64 yX10_hasBit RX10) (List.mem_of_getElem? (i := 35) rfl)) rfl rfl ⟨Nat.le_of_ble_eq_true rfl, Nat.le_of_ble_eq_true rfl⟩, hts _ ok_X10_hasBit.2.2.1, trivial⟩) ⟨bP.blind, fun U hU hW => ⟨rfl, by rw [hU]; exact hP, kG.warm hW hG⟩⟩ rfl rfl hl.1 rfl (lv_room (Nat.le_of_ble_eq_true rfl)) dX9_fits_123 ⟨Nat.le_of_ble_eq_true rfl, Nat.le_of_ble_eq_true rfl⟩) (fun r hr9 => ?_)
            subst hr9
            refine my_ifeq (tgt := 141) hx hb dX9_fits_126 (by decide) (fun c_126 => ?_) (fun c_126 => ?_)
            · refine lv_iinc (v := nI (i + 1)) (lv' := [(5, .int (nI (i + 1))), (7, .int 1), (6, .int 0), (0, .ref (g 7)), (1, .ref (g 36)), (2, .int (nI a)), (3, .int u), (4, .int w)]) hx hb dX9_fits_141 hl (k := 7) rfl (nI_1 i) (by decide) rfl (fun ls hl => ?_)
              refine lv_goto (tgt := 44) hx hb dX9_fits_144 (by decide) ?_
              exact ih_2 u w (i + 1) _ (hi9) (by omega) (lv_sub hl [3, 4, 5, 6, 7, 0] rfl)
            · refine lv_iload hx hb dX9_fits_129 (lv_at hl 1 rfl) ?_
              refine lv_if_ne (tgt := 141) hx hb dX9_fits_131 (by decide) (fun c_131 => absurd (by decide) c_131) (fun c_131 => ?_)
              refine lv_iload hx hb dX9_fits_134 (lv_at hl 0 rfl) ?_
              refine lv_if_ne (tgt := 141) hx hb dX9_fits_136 (by decide) (fun c_136 => ?_) (fun c_136 => absurd c_136 (by decide))
              refine lv_iinc (v := nI (i + 1)) (lv' := [(5, .int (nI (i + 1))), (7, .int 1), (6, .int 0), (0, .ref (g 7)), (1, .ref (g 36)), (2, .int (nI a)), (3, .int u), (4, .int w)]) hx hb dX9_fits_141 hl (k := 7) rfl (nI_1 i) (by decide) rfl (fun ls hl => ?_)
              refine lv_goto (tgt := 44) hx hb dX9_fits_144 (by decide) ?_
              exact ih_2 u w (i + 1) _ (hi9) (by omega) (lv_sub hl [3, 4, 5, 6, 7, 0] rfl)
        · refine lv_iconst (v := 1) hx hb dX9_fits_73 (by decide) ?_
          refine lv_goto (tgt := 78) hx hb dX9_fits_74 (by decide) ?_
          refine lv_istore (lv' := [(6, .int 1), (0, .ref (g 7)), (1, .ref (g 36)), (2, .int (nI a)), (3, .int u), (4, .int w), (5, .int (nI i))]) hx hb dX9_fits_78 hl (by decide) rfl (fun ls hl => ?_)
          refine lv_aload_n hx hb dX9_fits_80 rfl (lv_at hl 2 rfl) ?_
          refine va_getN (D := G.1) (ci := 0) (v := .ref (g 45)) (C := RX0) (T := TX0) (N := 9) (host := RX10) hx hb hts inlX0 hown hG.1 hP 36 (wl_at (by decide) hbk) rfl 4 (by decide) (va_Nw.use rfl (hG.2.1 (.fieldLinkNest RX9 53 RX0 "trials" "LSwornLists$Rows;" RX10) (List.mem_of_getElem? (i := 5) rfl))) (fun _ h9 => h9) rfl dX9_fits_81 ?_
          refine lv_aload_n hx hb dX9_fits_84 rfl (lv_at hl 1 rfl) ?_
          refine va_get (D := G.1) (ci := 8) (v := .ref (g 8)) (C := RX9) (T := TX9) (N := 6) hx hb hts inlX9 hown hG.1 hP 7 (wl_at (by decide) hwt) rfl 0 (by decide) (hts (.fieldLink RX9 11 "SwornLists$Waits" "trials" "[I") w_104) (fun _ h9 => h9) rfl dX9_fits_85 ?_
          refine lv_iload hx hb dX9_fits_88 (lv_at hl 6 rfl) ?_
          refine va_iald hx hb hG.1 hP 8 0 (wl_at (by decide) hw8) rfl (vp_in_nI (by omega) (by decide)) dX9_fits_90 ?_
          refine lv_iconst (v := 0) hx hb dX9_fits_91 (by decide) ?_
          refine rd_calli (va_runV (As := [.int (wt (Int32.toNatClampNeg (nI i))), .int 0]) (rest := []) ⟨hx, hb, hml, hown, hts⟩ (r_at l G g hg f 45 10 70 nt ct (wt (Int32.toNatClampNeg (nI i))) 0 htr hct (by first | assumption | omega | decide) (by first | assumption | omega | decide) (by first | assumption | omega | decide) (by first | assumption | omega | decide)) (my_cwV hts ok_X5_at w_853 rfl rfl ⟨Nat.le_of_ble_eq_true rfl, Nat.le_of_ble_eq_true rfl⟩) ⟨bP.blind, va_recv hG.1 hP (ci := 5) (q0 := 45) rfl (wl_at (by decide) htr), fun U hU hW => ⟨rfl, by rw [hU]; exact hP, kG.warm hW hG⟩⟩ rfl rfl hl.1 rfl (lv_room (Nat.le_of_ble_eq_true rfl)) dX9_fits_92 ⟨Nat.le_of_ble_eq_true rfl, Nat.le_of_ble_eq_true rfl⟩) (fun r hr9 => ?_)
          subst hr9
          refine lv_aload_n hx hb dX9_fits_95 rfl (lv_at hl 1 rfl) ?_
          refine va_get (D := G.1) (ci := 8) (v := .ref (g 9)) (C := RX9) (T := TX9) (N := 6) hx hb hts inlX9 hown hG.1 hP 7 (wl_at (by decide) hwt) rfl 1 (by decide) (hts (.fieldLink RX9 15 "SwornLists$Waits" "waits" "[I") w_105) (fun _ h9 => h9) rfl dX9_fits_96 ?_
          refine lv_iload hx hb dX9_fits_99 (lv_at hl 6 rfl) ?_
          refine va_iald hx hb hG.1 hP 9 0 (wl_at (by decide) hw9) rfl (vp_in_nI (by omega) (by decide)) dX9_fits_101 ?_
          refine lv_iadd hx hb dX9_fits_102 ?_
          refine lv_iload hx hb dX9_fits_103 (lv_at hl 5 rfl) ?_
          refine lv_icmp_le (tgt := 112) hx hb dX9_fits_105 (by decide) (fun c_105 => ?_) (fun c_105 => ?_)
          · refine lv_iconst (v := 0) hx hb dX9_fits_112 (by decide) ?_
            refine lv_istore (lv' := [(7, .int 0), (6, .int 1), (0, .ref (g 7)), (1, .ref (g 36)), (2, .int (nI a)), (3, .int u), (4, .int w), (5, .int (nI i))]) hx hb dX9_fits_113 hl (by decide) rfl (fun ls hl => ?_)
            refine lv_aload_n hx hb dX9_fits_115 rfl (lv_at hl 2 rfl) ?_
            refine va_get (D := G.1) (ci := 8) (v := .ref (g 11)) (C := RX9) (T := TX9) (N := 6) hx hb hts inlX9 hown hG.1 hP 7 (wl_at (by decide) hwt) rfl 3 (by decide) (hts (.fieldLink RX9 21 "SwornLists$Waits" "foes" "[I") w_107) (fun _ h9 => h9) rfl dX9_fits_116 ?_
            refine lv_iload_n hx hb dX9_fits_119 rfl (lv_at hl 4 rfl) ?_
            refine va_iald hx hb hG.1 hP 11 0 (wl_at (by decide) hw11) rfl (vp_in_nI (by omega) (by decide)) dX9_fits_120 ?_
            refine lv_iload hx hb dX9_fits_121 (lv_at hl 7 rfl) ?_
            refine rd_calli (va_runSN (As := [.int (wf (Int32.toNatClampNeg (nI a))), .int (nI i)]) (rest := []) ⟨hx, hb, hml, hown, hts⟩ (s_hasBit l G g hg f (wf (Int32.toNatClampNeg (nI a))) (nI i)  ) (⟨my_cn hts ok_X10_hasBit.1 (hG.2.1 (.methodLinkNest RX9 64 yX10_hasBit RX10) (List.mem_of_getElem? (i := 35) rfl)) rfl rfl ⟨Nat.le_of_ble_eq_true rfl, Nat.le_of_ble_eq_true rfl⟩, hts _ ok_X10_hasBit.2.2.1, trivial⟩) ⟨bP.blind, fun U hU hW => ⟨rfl, by rw [hU]; exact hP, kG.warm hW hG⟩⟩ rfl rfl hl.1 rfl (lv_room (Nat.le_of_ble_eq_true rfl)) dX9_fits_123 ⟨Nat.le_of_ble_eq_true rfl, Nat.le_of_ble_eq_true rfl⟩) (fun r hr9 => ?_)
            subst hr9
            refine my_ifeq (tgt := 141) hx hb dX9_fits_126 (by decide) (fun c_126 => ?_) (fun c_126 => ?_)
            · refine lv_iinc (v := nI (i + 1)) (lv' := [(5, .int (nI (i + 1))), (7, .int 0), (6, .int 1), (0, .ref (g 7)), (1, .ref (g 36)), (2, .int (nI a)), (3, .int u), (4, .int w)]) hx hb dX9_fits_141 hl (k := 7) rfl (nI_1 i) (by decide) rfl (fun ls hl => ?_)
              refine lv_goto (tgt := 44) hx hb dX9_fits_144 (by decide) ?_
              exact ih_2 u w (i + 1) _ (hi9) (by omega) (lv_sub hl [3, 4, 5, 6, 7, 0] rfl)
            · refine lv_iload hx hb dX9_fits_129 (lv_at hl 1 rfl) ?_
              refine lv_if_ne (tgt := 141) hx hb dX9_fits_131 (by decide) (fun c_131 => ?_) (fun c_131 => absurd c_131 (by decide))
              refine lv_iinc (v := nI (i + 1)) (lv' := [(5, .int (nI (i + 1))), (7, .int 0), (6, .int 1), (0, .ref (g 7)), (1, .ref (g 36)), (2, .int (nI a)), (3, .int u), (4, .int w)]) hx hb dX9_fits_141 hl (k := 7) rfl (nI_1 i) (by decide) rfl (fun ls hl => ?_)
              refine lv_goto (tgt := 44) hx hb dX9_fits_144 (by decide) ?_
              exact ih_2 u w (i + 1) _ (hi9) (by omega) (lv_sub hl [3, 4, 5, 6, 7, 0] rfl)
          · refine lv_iconst (v := 1) hx hb dX9_fits_108 (by decide) ?_
            refine lv_goto (tgt := 113) hx hb dX9_fits_109 (by decide) ?_
            refine lv_istore (lv' := [(7, .int 1), (6, .int 1), (0, .ref (g 7)), (1, .ref (g 36)), (2, .int (nI a)), (3, .int u), (4, .int w), (5, .int (nI i))]) hx hb dX9_fits_113 hl (by decide) rfl (fun ls hl => ?_)
            refine lv_aload_n hx hb dX9_fits_115 rfl (lv_at hl 2 rfl) ?_
            refine va_get (D := G.1) (ci := 8) (v := .ref (g 11)) (C := RX9) (T := TX9) (N := 6) hx hb hts inlX9 hown hG.1 hP 7 (wl_at (by decide) hwt) rfl 3 (by decide) (hts (.fieldLink RX9 21 "SwornLists$Waits" "foes" "[I") w_107) (fun _ h9 => h9) rfl dX9_fits_116 ?_
            refine lv_iload_n hx hb dX9_fits_119 rfl (lv_at hl 4 rfl) ?_
            refine va_iald hx hb hG.1 hP 11 0 (wl_at (by decide) hw11) rfl (vp_in_nI (by omega) (by decide)) dX9_fits_120 ?_
            refine lv_iload hx hb dX9_fits_121 (lv_at hl 7 rfl) ?_
            refine rd_calli (va_runSN (As := [.int (wf (Int32.toNatClampNeg (nI a))), .int (nI i)]) (rest := []) ⟨hx, hb, hml, hown, hts⟩ (s_hasBit l G g hg f (wf (Int32.toNatClampNeg (nI a))) (nI i)  ) (⟨my_cn hts ok_X10_hasBit.1 (hG.2.1 (.methodLinkNest RX9 64 yX10_hasBit RX10) (List.mem_of_getElem? (i := 35) rfl)) rfl rfl ⟨Nat.le_of_ble_eq_true rfl, Nat.le_of_ble_eq_true rfl⟩, hts _ ok_X10_hasBit.2.2.1, trivial⟩) ⟨bP.blind, fun U hU hW => ⟨rfl, by rw [hU]; exact hP, kG.warm hW hG⟩⟩ rfl rfl hl.1 rfl (lv_room (Nat.le_of_ble_eq_true rfl)) dX9_fits_123 ⟨Nat.le_of_ble_eq_true rfl, Nat.le_of_ble_eq_true rfl⟩) (fun r hr9 => ?_)
            subst hr9
            refine my_ifeq (tgt := 141) hx hb dX9_fits_126 (by decide) (fun c_126 => ?_) (fun c_126 => ?_)
            · refine lv_iinc (v := nI (i + 1)) (lv' := [(5, .int (nI (i + 1))), (7, .int 1), (6, .int 1), (0, .ref (g 7)), (1, .ref (g 36)), (2, .int (nI a)), (3, .int u), (4, .int w)]) hx hb dX9_fits_141 hl (k := 7) rfl (nI_1 i) (by decide) rfl (fun ls hl => ?_)
              refine lv_goto (tgt := 44) hx hb dX9_fits_144 (by decide) ?_
              exact ih_2 u w (i + 1) _ (hi9) (by omega) (lv_sub hl [3, 4, 5, 6, 7, 0] rfl)
            · refine lv_iload hx hb dX9_fits_129 (lv_at hl 1 rfl) ?_
              refine lv_if_ne (tgt := 141) hx hb dX9_fits_131 (by decide) (fun c_131 => ?_) (fun c_131 => absurd c_131 (by decide))
              refine lv_iinc (v := nI (i + 1)) (lv' := [(5, .int (nI (i + 1))), (7, .int 1), (6, .int 1), (0, .ref (g 7)), (1, .ref (g 36)), (2, .int (nI a)), (3, .int u), (4, .int w)]) hx hb dX9_fits_141 hl (k := 7) rfl (nI_1 i) (by decide) rfl (fun ls hl => ?_)
              refine lv_goto (tgt := 44) hx hb dX9_fits_144 (by decide) ?_
              exact ih_2 u w (i + 1) _ (hi9) (by omega) (lv_sub hl [3, 4, 5, 6, 7, 0] rfl)
  exact key2 (a + 1) ((atv ct nt 70 (wt (Int32.toNatClampNeg (nI a))) 0) + (ww (Int32.toNatClampNeg (nI a)))) (v1 + (ww (Int32.toNatClampNeg (nI a)))) 0 _ (Nat.zero_le _) (by omega) (lv_sub hl [3, 4, 5, 2, 1, 0] rfl)
set_option maxHeartbeats 4000000 in
set_option maxRecDepth 100000 in
theorem v_gather (l : Launch) (G : gW) (g : Nat → Nat) (hg : gOK g) (f : Nat → va_E) (mn : Nat) (le : Int32) (wt : Nat → Int32) (ww : Nat → Int32) (wb : Nat → Int32) (wf : Nat → Int32) (pay : Int32) (fine : Int32) (nt : Nat) (ct : Nat → Int32) (n : Int32) (hwt : f 7 = eO 8 [.ref (g 8), .ref (g 9), .ref (g 10), .ref (g 11), .int (nI mn), .int le]) (hw8 : f 8 = eI G 6 wt) (hw9 : f 9 = eI G 6 ww) (hw10 : f 10 = eI G 6 wb) (hw11 : f 11 = eI G 6 wf) (hbk : f 36 = eO 0 [.ref (g 37), .ref (g 39), .ref (g 41), .ref (g 43), .ref (g 45), .ref (g 47), .ref (g 112), .int pay, .int fine]) (htr : f 45 = eO 5 [.int (nI 10), .int (nI 70), .ref (g 46), .int (nI nt)]) (hct : f 46 = eI G (10 * 70) ct) (hmn : mn ≤ 6) (hnt : nt ≤ 10) : Met l yX9_gather (wsT yX9_gather cX9_gather 5 none) ({ frames := 2, cells := 0, slots := 0, locals := 48 }) (bP G g f [.ref (g 7), .ref (g 36), .int n]) (bQv G g (fun (f' : Nat → va_E) => ∃ mn9 : Nat, ∃ wt9 : Nat → Int32, ∃ wf9 : Nat → Int32, f' 7 = eO 8 [.ref (g 8), .ref (g 9), .ref (g 10), .ref (g 11), .int (nI mn9), .int le] ∧ f' 8 = eI G 6 wt9 ∧ f' 11 = eI G 6 wf9 ∧ (mn9 ≤ 6) ∧ ∀ j, (j ≠ 7 ∧ j ≠ 8 ∧ j ≠ 11) → f' j = f j)) 0 0 (gA g) := by
  refine Met.ofW (cc := cX9_gather) (maxL := 5) (ret := none) (by decide) rfl ?_
  intro p e s m args below meth c s₁ B hml hv
  obtain ⟨rfl, hP, hG⟩ := hv
  have hx := B.exec
  have hb := B.bytes
  have hr := B.returns
  have hts := my_hts (atoms_spec (ws := wsT yX9_gather cX9_gather 5 none) B.pre)
  have hown : s.vm.findClass RX9 = some m.cls := findClass_of_methodNamed B.named
  have hlocks := B.notSynchronized
  have hS : va_S (gA g) s.heap s.heap [] := va_S.rf
  have hl := lv_entry ([.ref (g 7), .ref (g 36), .int n]) (n := 5) (Nat.le_of_ble_eq_true rfl)
  rw [lg_entry_eq]
  generalize (lg_sl ([.ref (g 7), .ref (g 36), .int n]) ++ List.replicate (5 - (lg_sl ([.ref (g 7), .ref (g 36), .int n])).length) Slot.unset).toArray = ls at hl ⊢
  have hl : lv_has ls 5 [(0, .ref (g 7)), (1, .ref (g 36)), (2, .int n)] := hl
  refine lv_aload_n hx hb dX9_gather_0 rfl (lv_at hl 0 rfl) ?_
  refine lv_iconst (v := 0) hx hb dX9_gather_1 (by decide) ?_
  refine va_put (D := G.1) (ci := 8) (v := .int 0) (ty := .int) (C := RX9) (T := TX9) (N := 6) hx hb hts inlX9 tyX9 tyX9_ok nmX9 hown hG.1 hP (wl_D hg f) hS 7 (wl_at (by decide) hwt) rfl 4 (by decide) (hts (.fieldLink RX9 24 "SwornLists$Waits" "many" "I") w_824) (fun _ h9 => h9) rfl (by decide +kernel) rfl rfl (Nat.le_of_ble_eq_true rfl) dX9_gather_2 (fun H locs hP _ hS => ?_)
  obtain ⟨f_1, hP, e_1, o_1⟩ := b_put (by decide) hP
  have hwt : f_1 7 = eO 8 [.ref (g 8), .ref (g 9), .ref (g 10), .ref (g 11), .int 0, .int le] := e_1
  replace hw8 := (o_1 8 (by decide)).trans hw8
  replace hw9 := (o_1 9 (by decide)).trans hw9
  replace hw10 := (o_1 10 (by decide)).trans hw10
  replace hw11 := (o_1 11 (by decide)).trans hw11
  replace hbk := (o_1 36 (by decide)).trans hbk
  replace htr := (o_1 45 (by decide)).trans htr
  replace hct := (o_1 46 (by decide)).trans hct
  refine lv_iconst (v := 0) hx hb dX9_gather_5 (by decide) ?_
  refine lv_istore_n (lv' := [(3, .int 0), (0, .ref (g 7)), (1, .ref (g 36)), (2, .int n)]) hx hb dX9_gather_6 rfl hl (by decide) rfl (fun ls hl => ?_)
  have key1 : ∀ (n9_1 : Nat) (i : Nat) (m1 : Nat) (t1 : Nat → Int32) (o1 : Nat → Int32) (f_2 : Nat → va_E) (H : Heap) (locs : List Loc) (ls : Array Slot), (i ≤ nt) → (m1 ≤ 6) → nt - i < n9_1 → f_2 7 = eO 8 [.ref (g 8), .ref (g 9), .ref (g 10), .ref (g 11), .int (nI m1), .int le] → f_2 8 = eI G 6 t1 → f_2 9 = eI G 6 ww → f_2 10 = eI G 6 wb → f_2 11 = eI G 6 o1 → f_2 36 = eO 0 [.ref (g 37), .ref (g 39), .ref (g 41), .ref (g 43), .ref (g 45), .ref (g 47), .ref (g 112), .int pay, .int fine] → f_2 45 = eO 5 [.int (nI 10), .int (nI 70), .ref (g 46), .int (nI nt)] → f_2 46 = eI G (10 * 70) ct → (∀ j, (j ≠ 7 ∧ j ≠ 8 ∧ j ≠ 11) → f_2 j = f_1 j) → va_P G.1 vwCl (wl g f_2) H → va_S (gA g) s.heap H locs → lv_has ls 5 [(0, .ref (g 7)), (1, .ref (g 36)), (2, .int n), (3, .int (nI i))] → W p l e (headSpec (wsT yX9_gather cX9_gather 5 none) ({ frames := 2, cells := 0, slots := 0, locals := 48 })).room s m ([.ref (g 7), .ref (g 36), .int n] : List Value).toArray below meth c H locs 0 0 (MQ below (bQv G g (fun (f' : Nat → va_E) => ∃ mn9 : Nat, ∃ wt9 : Nat → Int32, ∃ wf9 : Nat → Int32, f' 7 = eO 8 [.ref (g 8), .ref (g 9), .ref (g 10), .ref (g 11), .int (nI mn9), .int le] ∧ f' 8 = eI G 6 wt9 ∧ f' 11 = eI G 6 wf9 ∧ (mn9 ≤ 6) ∧ ∀ j, (j ≠ 7 ∧ j ≠ 8 ∧ j ≠ 11) → f' j = f j)) ([.ref (g 7), .ref (g 36), .int n] : List Value).toArray s 0 0 (gA g)) (F0 m 7 ls []) := by
    intro n9_1
    induction n9_1 with
    | zero => intro i m1 t1 o1 f_2 H locs ls hi hm1 hn9_1; exact absurd hn9_1 (Nat.not_lt_zero _)
    | succ n9_1 ih_1 =>
      intro i m1 t1 o1 f_2 H locs ls hi hm1 hn9_1 hwt hw8 hw9 hw10 hw11 hbk htr hct o_2 hP hS hl
      refine lv_iload_n hx hb dX9_gather_7 rfl (lv_at hl 3 rfl) ?_
      refine lv_aload_n hx hb dX9_gather_8 rfl (lv_at hl 1 rfl) ?_
      refine va_getN (D := G.1) (ci := 0) (v := .ref (g 45)) (C := RX0) (T := TX0) (N := 9) (host := RX10) hx hb hts inlX0 hown hG.1 hP 36 (wl_at (by decide) hbk) rfl 4 (by decide) (va_Nw.use rfl (hG.2.1 (.fieldLinkNest RX9 53 RX0 "trials" "LSwornLists$Rows;" RX10) (List.mem_of_getElem? (i := 5) rfl))) (fun _ h9 => h9) rfl dX9_gather_9 ?_
      refine rd_calli (va_runV (As := []) (rest := [.int (nI i)]) ⟨hx, hb, hml, hown, hts⟩ (r_size l G g hg f_2 45 10 70 nt htr (by first | assumption | omega | decide) (by first | assumption | omega | decide) (by first | assumption | omega | decide) (by first | assumption | omega | decide)) (my_cwV hts ok_X5_size w_832 rfl rfl ⟨Nat.le_of_ble_eq_true rfl, Nat.le_of_ble_eq_true rfl⟩) ⟨bP.blind, va_recv hG.1 hP (ci := 5) (q0 := 45) rfl (wl_at (by decide) htr), fun U hU hW => ⟨rfl, by rw [hU]; exact hP, kG.warm hW hG⟩⟩ rfl rfl hl.1 rfl (lv_room (Nat.le_of_ble_eq_true rfl)) dX9_gather_12 ⟨Nat.le_of_ble_eq_true rfl, Nat.le_of_ble_eq_true rfl⟩) (fun r hr9 => ?_)
      subst hr9
      refine lv_icmp_ge (tgt := 71) hx hb dX9_gather_15 (by decide) (fun c_15 => ?_) (fun c_15 => ?_)
      · refine lv_iconst (v := 0) hx hb dX9_gather_71 (by decide) ?_
        refine lv_istore_n (lv' := [(3, .int 0), (0, .ref (g 7)), (1, .ref (g 36)), (2, .int n)]) hx hb dX9_gather_72 rfl hl (by decide) rfl (fun ls hl => ?_)
        have key2 : ∀ (n9_2 : Nat) (i2 : Nat) (o2 : Nat → Int32) (f_3 : Nat → va_E) (H : Heap) (locs : List Loc) (ls : Array Slot), (i2 ≤ m1) → m1 - i2 < n9_2 → f_3 7 = eO 8 [.ref (g 8), .ref (g 9), .ref (g 10), .ref (g 11), .int (nI m1), .int le] → f_3 8 = eI G 6 t1 → f_3 9 = eI G 6 ww → f_3 10 = eI G 6 wb → f_3 11 = eI G 6 o2 → f_3 36 = eO 0 [.ref (g 37), .ref (g 39), .ref (g 41), .ref (g 43), .ref (g 45), .ref (g 47), .ref (g 112), .int pay, .int fine] → f_3 45 = eO 5 [.int (nI 10), .int (nI 70), .ref (g 46), .int (nI nt)] → f_3 46 = eI G (10 * 70) ct → (∀ j, j ≠ 11 → f_3 j = f_2 j) → va_P G.1 vwCl (wl g f_3) H → va_S (gA g) s.heap H locs → lv_has ls 5 [(0, .ref (g 7)), (1, .ref (g 36)), (2, .int n), (3, .int (nI i2))] → W p l e (headSpec (wsT yX9_gather cX9_gather 5 none) ({ frames := 2, cells := 0, slots := 0, locals := 48 })).room s m ([.ref (g 7), .ref (g 36), .int n] : List Value).toArray below meth c H locs 0 0 (MQ below (bQv G g (fun (f' : Nat → va_E) => ∃ mn9 : Nat, ∃ wt9 : Nat → Int32, ∃ wf9 : Nat → Int32, f' 7 = eO 8 [.ref (g 8), .ref (g 9), .ref (g 10), .ref (g 11), .int (nI mn9), .int le] ∧ f' 8 = eI G 6 wt9 ∧ f' 11 = eI G 6 wf9 ∧ (mn9 ≤ 6) ∧ ∀ j, (j ≠ 7 ∧ j ≠ 8 ∧ j ≠ 11) → f' j = f j)) ([.ref (g 7), .ref (g 36), .int n] : List Value).toArray s 0 0 (gA g)) (F0 m 73 ls []) := by
          intro n9_2
          induction n9_2 with
          | zero => intro i2 o2 f_3 H locs ls hi2 hn9_2; exact absurd hn9_2 (Nat.not_lt_zero _)
          | succ n9_2 ih_2 =>
            intro i2 o2 f_3 H locs ls hi2 hn9_2 hwt hw8 hw9 hw10 hw11 hbk htr hct o_3 hP hS hl
            refine lv_iload_n hx hb dX9_gather_73 rfl (lv_at hl 3 rfl) ?_
            refine lv_aload_n hx hb dX9_gather_74 rfl (lv_at hl 0 rfl) ?_
            refine va_get (D := G.1) (ci := 8) (v := .int (nI m1)) (C := RX9) (T := TX9) (N := 6) hx hb hts inlX9 hown hG.1 hP 7 (wl_at (by decide) hwt) rfl 4 (by decide) (hts (.fieldLink RX9 24 "SwornLists$Waits" "many" "I") w_824) (fun _ h9 => h9) rfl dX9_gather_75 ?_
            refine lv_icmp_ge (tgt := 168) hx hb dX9_gather_78 (by decide) (fun c_78 => ?_) (fun c_78 => ?_)
            · exact W.vret hx hb hr (fun t ht hW => ⟨⟨f_3, rfl, (⟨m1, t1, o2, hwt, hw8, hw11, by omega, fun j hj => (((o_3 j (by omega))).trans (o_2 j (by omega))).trans (o_1 j (by omega))⟩), by rw [ht]; exact hP⟩, hS.F ht⟩) hS.2.2 dX9_gather_168
            · have hi29 : i2 < m1 := Nat.not_le.mp (fun z => c_78 (nI_le z (by omega)))
              refine lv_iconst (v := 0) hx hb dX9_gather_81 (by decide) ?_
              refine lv_istore (lv' := [(4, .int 0), (0, .ref (g 7)), (1, .ref (g 36)), (2, .int n), (3, .int (nI i2))]) hx hb dX9_gather_82 hl (by decide) rfl (fun ls hl => ?_)
              have key3 : ∀ (n9_3 : Nat) (i3 : Nat) (o3 : Nat → Int32) (f_4 : Nat → va_E) (H : Heap) (locs : List Loc) (ls : Array Slot), (i3 ≤ i2) → i2 - i3 < n9_3 → f_4 7 = eO 8 [.ref (g 8), .ref (g 9), .ref (g 10), .ref (g 11), .int (nI m1), .int le] → f_4 8 = eI G 6 t1 → f_4 9 = eI G 6 ww → f_4 10 = eI G 6 wb → f_4 11 = eI G 6 o3 → f_4 36 = eO 0 [.ref (g 37), .ref (g 39), .ref (g 41), .ref (g 43), .ref (g 45), .ref (g 47), .ref (g 112), .int pay, .int fine] → f_4 45 = eO 5 [.int (nI 10), .int (nI 70), .ref (g 46), .int (nI nt)] → f_4 46 = eI G (10 * 70) ct → (∀ j, j ≠ 11 → f_4 j = f_3 j) → va_P G.1 vwCl (wl g f_4) H → va_S (gA g) s.heap H locs → lv_has ls 5 [(0, .ref (g 7)), (1, .ref (g 36)), (2, .int n), (3, .int (nI i2)), (4, .int (nI i3))] → W p l e (headSpec (wsT yX9_gather cX9_gather 5 none) ({ frames := 2, cells := 0, slots := 0, locals := 48 })).room s m ([.ref (g 7), .ref (g 36), .int n] : List Value).toArray below meth c H locs 0 0 (MQ below (bQv G g (fun (f' : Nat → va_E) => ∃ mn9 : Nat, ∃ wt9 : Nat → Int32, ∃ wf9 : Nat → Int32, f' 7 = eO 8 [.ref (g 8), .ref (g 9), .ref (g 10), .ref (g 11), .int (nI mn9), .int le] ∧ f' 8 = eI G 6 wt9 ∧ f' 11 = eI G 6 wf9 ∧ (mn9 ≤ 6) ∧ ∀ j, (j ≠ 7 ∧ j ≠ 8 ∧ j ≠ 11) → f' j = f j)) ([.ref (g 7), .ref (g 36), .int n] : List Value).toArray s 0 0 (gA g)) (F0 m 84 ls []) := by
                intro n9_3
                induction n9_3 with
                | zero => intro i3 o3 f_4 H locs ls hi3 hn9_3; exact absurd hn9_3 (Nat.not_lt_zero _)
                | succ n9_3 ih_3 =>
                  intro i3 o3 f_4 H locs ls hi3 hn9_3 hwt hw8 hw9 hw10 hw11 hbk htr hct o_4 hP hS hl
                  refine lv_iload hx hb dX9_gather_84 (lv_at hl 4 rfl) ?_
                  refine lv_iload_n hx hb dX9_gather_86 rfl (lv_at hl 3 rfl) ?_
                  refine lv_icmp_ge (tgt := 162) hx hb dX9_gather_87 (by decide) (fun c_87 => ?_) (fun c_87 => ?_)
                  · refine lv_iinc (v := nI (i2 + 1)) (lv' := [(3, .int (nI (i2 + 1))), (0, .ref (g 7)), (1, .ref (g 36)), (2, .int n), (4, .int (nI i3))]) hx hb dX9_gather_162 hl (k := 3) rfl (nI_1 i2) (by decide) rfl (fun ls hl => ?_)
                    refine lv_goto (tgt := 73) hx hb dX9_gather_165 (by decide) ?_
                    exact ih_2 (i2 + 1) o3 f_4 _ _ _ (by omega) (by omega) (hwt) (hw8) (hw9) (hw10) (hw11) (hbk) (htr) (hct) (fun j hj => ((o_4 j (by omega))).trans (o_3 j (by omega))) hP hS (lv_sub hl [1, 2, 3, 0] rfl)
                  · have hi39 : i3 < i2 := Nat.not_le.mp (fun z => c_87 (nI_le z (by omega)))
                    refine lv_aload_n hx hb dX9_gather_90 rfl (lv_at hl 1 rfl) ?_
                    refine lv_aload_n hx hb dX9_gather_91 rfl (lv_at hl 0 rfl) ?_
                    refine va_get (D := G.1) (ci := 8) (v := .ref (g 8)) (C := RX9) (T := TX9) (N := 6) hx hb hts inlX9 hown hG.1 hP 7 (wl_at (by decide) hwt) rfl 0 (by decide) (hts (.fieldLink RX9 11 "SwornLists$Waits" "trials" "[I") w_104) (fun _ h9 => h9) rfl dX9_gather_92 ?_
                    refine lv_iload_n hx hb dX9_gather_95 rfl (lv_at hl 3 rfl) ?_
                    refine va_iald hx hb hG.1 hP 8 0 (wl_at (by decide) hw8) rfl (vp_in_nI (by omega) (by decide)) dX9_gather_96 ?_
                    refine lv_aload_n hx hb dX9_gather_97 rfl (lv_at hl 0 rfl) ?_
                    refine va_get (D := G.1) (ci := 8) (v := .ref (g 8)) (C := RX9) (T := TX9) (N := 6) hx hb hts inlX9 hown hG.1 hP 7 (wl_at (by decide) hwt) rfl 0 (by decide) (hts (.fieldLink RX9 11 "SwornLists$Waits" "trials" "[I") w_104) (fun _ h9 => h9) rfl dX9_gather_98 ?_
                    refine lv_iload hx hb dX9_gather_101 (lv_at hl 4 rfl) ?_
                    refine va_iald hx hb hG.1 hP 8 0 (wl_at (by decide) hw8) rfl (vp_in_nI (by omega) (by decide)) dX9_gather_103 ?_
                    refine rd_calli (va_runV (As := [.int (t1 (Int32.toNatClampNeg (nI i2))), .int (t1 (Int32.toNatClampNeg (nI i3)))]) (rest := []) ⟨hx, hb, hml, hown, hts⟩ (k_shareFamily l G g hg f_4 pay fine nt ct (t1 (Int32.toNatClampNeg (nI i2))) (t1 (Int32.toNatClampNeg (nI i3))) hbk htr hct (by first | assumption | omega | decide)) (my_cwV hts ok_X0_shareFamily w_833 rfl rfl ⟨Nat.le_of_ble_eq_true rfl, Nat.le_of_ble_eq_true rfl⟩) ⟨bP.blind, va_recv hG.1 hP (ci := 0) (q0 := 36) rfl (wl_at (by decide) hbk), fun U hU hW => ⟨rfl, by rw [hU]; exact hP, kG.warm hW hG⟩⟩ rfl rfl hl.1 rfl (lv_room (Nat.le_of_ble_eq_true rfl)) dX9_gather_104 ⟨Nat.le_of_ble_eq_true rfl, Nat.le_of_ble_eq_true rfl⟩) (fun r hr9 => ?_)
                    obtain ⟨bz4, rfl⟩ := hr9
                    refine my_ifne (tgt := 130) hx hb dX9_gather_107 (by decide) (fun c_107 => ?_) (fun c_107 => ?_)
                    · refine lv_aload_n hx hb dX9_gather_130 rfl (lv_at hl 0 rfl) ?_
                      refine va_get (D := G.1) (ci := 8) (v := .ref (g 11)) (C := RX9) (T := TX9) (N := 6) hx hb hts inlX9 hown hG.1 hP 7 (wl_at (by decide) hwt) rfl 3 (by decide) (hts (.fieldLink RX9 21 "SwornLists$Waits" "foes" "[I") w_107) (fun _ h9 => h9) rfl dX9_gather_131 ?_
                      refine lv_iload_n hx hb dX9_gather_134 rfl (lv_at hl 3 rfl) ?_
                      refine lv_dup2_11 hx hb dX9_gather_135 rfl rfl ?_
                      refine va_iald hx hb hG.1 hP 11 0 (wl_at (by decide) hw11) rfl (vp_in_nI (by omega) (by decide)) dX9_gather_136 ?_
                      refine lv_iconst (v := 1) hx hb dX9_gather_137 (by decide) ?_
                      refine lv_iload hx hb dX9_gather_138 (lv_at hl 4 rfl) ?_
                      refine lv_ishl hx hb dX9_gather_140 ?_
                      refine lv_ior hx hb dX9_gather_141 ?_
                      refine va_iast hx hb hG.1 hP (wl_D hg f_4) hS 11 0 (wl_at (by decide) hw11) rfl (vp_in_nI (by omega) (by decide)) dX9_gather_142 (fun H locs hP _ hS => ?_)
                      obtain ⟨f_6, hP, e_6, o_6⟩ := b_put (by decide) hP
                      have hw11 : f_6 11 = eI G 6 (upd o3 (Int32.toNatClampNeg (nI i2)) ((o3 (Int32.toNatClampNeg (nI i2))) ||| (1 <<< ((nI i3) &&& 31)))) := e_6
                      replace hwt := (o_6 7 (by decide)).trans hwt
                      replace hw8 := (o_6 8 (by decide)).trans hw8
                      replace hw9 := (o_6 9 (by decide)).trans hw9
                      replace hw10 := (o_6 10 (by decide)).trans hw10
                      replace hbk := (o_6 36 (by decide)).trans hbk
                      replace htr := (o_6 45 (by decide)).trans htr
                      replace hct := (o_6 46 (by decide)).trans hct
                      refine lv_aload_n hx hb dX9_gather_143 rfl (lv_at hl 0 rfl) ?_
                      refine va_get (D := G.1) (ci := 8) (v := .ref (g 11)) (C := RX9) (T := TX9) (N := 6) hx hb hts inlX9 hown hG.1 hP 7 (wl_at (by decide) hwt) rfl 3 (by decide) (hts (.fieldLink RX9 21 "SwornLists$Waits" "foes" "[I") w_107) (fun _ h9 => h9) rfl dX9_gather_144 ?_
                      refine lv_iload hx hb dX9_gather_147 (lv_at hl 4 rfl) ?_
                      refine lv_dup2_11 hx hb dX9_gather_149 rfl rfl ?_
                      refine va_iald hx hb hG.1 hP 11 0 (wl_at (by decide) hw11) rfl (vp_in_nI (by omega) (by decide)) dX9_gather_150 ?_
                      refine lv_iconst (v := 1) hx hb dX9_gather_151 (by decide) ?_
                      refine lv_iload_n hx hb dX9_gather_152 rfl (lv_at hl 3 rfl) ?_
                      refine lv_ishl hx hb dX9_gather_153 ?_
                      refine lv_ior hx hb dX9_gather_154 ?_
                      refine va_iast hx hb hG.1 hP (wl_D hg f_6) hS 11 0 (wl_at (by decide) hw11) rfl (vp_in_nI (by omega) (by decide)) dX9_gather_155 (fun H locs hP _ hS => ?_)
                      obtain ⟨f_7, hP, e_7, o_7⟩ := b_put (by decide) hP
                      have hw11 : f_7 11 = eI G 6 (upd (upd o3 (Int32.toNatClampNeg (nI i2)) ((o3 (Int32.toNatClampNeg (nI i2))) ||| (1 <<< ((nI i3) &&& 31)))) (Int32.toNatClampNeg (nI i3)) (((upd o3 (Int32.toNatClampNeg (nI i2)) ((o3 (Int32.toNatClampNeg (nI i2))) ||| (1 <<< ((nI i3) &&& 31)))) (Int32.toNatClampNeg (nI i3))) ||| (1 <<< ((nI i2) &&& 31)))) := e_7
                      replace hwt := (o_7 7 (by decide)).trans hwt
                      replace hw8 := (o_7 8 (by decide)).trans hw8
                      replace hw9 := (o_7 9 (by decide)).trans hw9
                      replace hw10 := (o_7 10 (by decide)).trans hw10
                      replace hbk := (o_7 36 (by decide)).trans hbk
                      replace htr := (o_7 45 (by decide)).trans htr
                      replace hct := (o_7 46 (by decide)).trans hct
                      refine lv_iinc (v := nI (i3 + 1)) (lv' := [(4, .int (nI (i3 + 1))), (0, .ref (g 7)), (1, .ref (g 36)), (2, .int n), (3, .int (nI i2))]) hx hb dX9_gather_156 hl (k := 4) rfl (nI_1 i3) (by decide) rfl (fun ls hl => ?_)
                      refine lv_goto (tgt := 84) hx hb dX9_gather_159 (by decide) ?_
                      exact ih_3 (i3 + 1) (upd (upd o3 (Int32.toNatClampNeg (nI i2)) ((o3 (Int32.toNatClampNeg (nI i2))) ||| (1 <<< ((nI i3) &&& 31)))) (Int32.toNatClampNeg (nI i3)) (((upd o3 (Int32.toNatClampNeg (nI i2)) ((o3 (Int32.toNatClampNeg (nI i2))) ||| (1 <<< ((nI i3) &&& 31)))) (Int32.toNatClampNeg (nI i3))) ||| (1 <<< ((nI i2) &&& 31)))) f_7 _ _ _ (by omega) (by omega) (hwt) (hw8) (hw9) (hw10) (hw11) (hbk) (htr) (hct) (fun j hj => (((o_7 j (by omega))).trans (o_6 j (by omega))).trans (o_4 j (by omega))) hP hS (lv_sub hl [1, 2, 3, 4, 0] rfl)
                    · refine lv_aload_n hx hb dX9_gather_110 rfl (lv_at hl 1 rfl) ?_
                      refine lv_aload_n hx hb dX9_gather_111 rfl (lv_at hl 0 rfl) ?_
                      refine va_get (D := G.1) (ci := 8) (v := .ref (g 8)) (C := RX9) (T := TX9) (N := 6) hx hb hts inlX9 hown hG.1 hP 7 (wl_at (by decide) hwt) rfl 0 (by decide) (hts (.fieldLink RX9 11 "SwornLists$Waits" "trials" "[I") w_104) (fun _ h9 => h9) rfl dX9_gather_112 ?_
                      refine lv_iload_n hx hb dX9_gather_115 rfl (lv_at hl 3 rfl) ?_
                      refine va_iald hx hb hG.1 hP 8 0 (wl_at (by decide) hw8) rfl (vp_in_nI (by omega) (by decide)) dX9_gather_116 ?_
                      refine lv_aload_n hx hb dX9_gather_117 rfl (lv_at hl 0 rfl) ?_
                      refine va_get (D := G.1) (ci := 8) (v := .ref (g 8)) (C := RX9) (T := TX9) (N := 6) hx hb hts inlX9 hown hG.1 hP 7 (wl_at (by decide) hwt) rfl 0 (by decide) (hts (.fieldLink RX9 11 "SwornLists$Waits" "trials" "[I") w_104) (fun _ h9 => h9) rfl dX9_gather_118 ?_
                      refine lv_iload hx hb dX9_gather_121 (lv_at hl 4 rfl) ?_
                      refine va_iald hx hb hG.1 hP 8 0 (wl_at (by decide) hw8) rfl (vp_in_nI (by omega) (by decide)) dX9_gather_123 ?_
                      refine rd_calli (va_runV (As := [.int (t1 (Int32.toNatClampNeg (nI i2))), .int (t1 (Int32.toNatClampNeg (nI i3)))]) (rest := []) ⟨hx, hb, hml, hown, hts⟩ (k_shareTrade l G g hg f_4 pay fine nt ct (t1 (Int32.toNatClampNeg (nI i2))) (t1 (Int32.toNatClampNeg (nI i3))) hbk htr hct (by first | assumption | omega | decide)) (my_cwV hts ok_X0_shareTrade w_837 rfl rfl ⟨Nat.le_of_ble_eq_true rfl, Nat.le_of_ble_eq_true rfl⟩) ⟨bP.blind, va_recv hG.1 hP (ci := 0) (q0 := 36) rfl (wl_at (by decide) hbk), fun U hU hW => ⟨rfl, by rw [hU]; exact hP, kG.warm hW hG⟩⟩ rfl rfl hl.1 rfl (lv_room (Nat.le_of_ble_eq_true rfl)) dX9_gather_124 ⟨Nat.le_of_ble_eq_true rfl, Nat.le_of_ble_eq_true rfl⟩) (fun r hr9 => ?_)
                      obtain ⟨bz5, rfl⟩ := hr9
                      refine my_ifeq (tgt := 156) hx hb dX9_gather_127 (by decide) (fun c_127 => ?_) (fun c_127 => ?_)
                      · refine lv_iinc (v := nI (i3 + 1)) (lv' := [(4, .int (nI (i3 + 1))), (0, .ref (g 7)), (1, .ref (g 36)), (2, .int n), (3, .int (nI i2))]) hx hb dX9_gather_156 hl (k := 4) rfl (nI_1 i3) (by decide) rfl (fun ls hl => ?_)
                        refine lv_goto (tgt := 84) hx hb dX9_gather_159 (by decide) ?_
                        exact ih_3 (i3 + 1) o3 f_4 _ _ _ (by omega) (by omega) (hwt) (hw8) (hw9) (hw10) (hw11) (hbk) (htr) (hct) (fun j hj => (o_4 j (by omega))) hP hS (lv_sub hl [1, 2, 3, 4, 0] rfl)
                      · refine lv_aload_n hx hb dX9_gather_130 rfl (lv_at hl 0 rfl) ?_
                        refine va_get (D := G.1) (ci := 8) (v := .ref (g 11)) (C := RX9) (T := TX9) (N := 6) hx hb hts inlX9 hown hG.1 hP 7 (wl_at (by decide) hwt) rfl 3 (by decide) (hts (.fieldLink RX9 21 "SwornLists$Waits" "foes" "[I") w_107) (fun _ h9 => h9) rfl dX9_gather_131 ?_
                        refine lv_iload_n hx hb dX9_gather_134 rfl (lv_at hl 3 rfl) ?_
                        refine lv_dup2_11 hx hb dX9_gather_135 rfl rfl ?_
                        refine va_iald hx hb hG.1 hP 11 0 (wl_at (by decide) hw11) rfl (vp_in_nI (by omega) (by decide)) dX9_gather_136 ?_
                        refine lv_iconst (v := 1) hx hb dX9_gather_137 (by decide) ?_
                        refine lv_iload hx hb dX9_gather_138 (lv_at hl 4 rfl) ?_
                        refine lv_ishl hx hb dX9_gather_140 ?_
                        refine lv_ior hx hb dX9_gather_141 ?_
                        refine va_iast hx hb hG.1 hP (wl_D hg f_4) hS 11 0 (wl_at (by decide) hw11) rfl (vp_in_nI (by omega) (by decide)) dX9_gather_142 (fun H locs hP _ hS => ?_)
                        obtain ⟨f_9, hP, e_9, o_9⟩ := b_put (by decide) hP
                        have hw11 : f_9 11 = eI G 6 (upd o3 (Int32.toNatClampNeg (nI i2)) ((o3 (Int32.toNatClampNeg (nI i2))) ||| (1 <<< ((nI i3) &&& 31)))) := e_9
                        replace hwt := (o_9 7 (by decide)).trans hwt
                        replace hw8 := (o_9 8 (by decide)).trans hw8
                        replace hw9 := (o_9 9 (by decide)).trans hw9
                        replace hw10 := (o_9 10 (by decide)).trans hw10
                        replace hbk := (o_9 36 (by decide)).trans hbk
                        replace htr := (o_9 45 (by decide)).trans htr
                        replace hct := (o_9 46 (by decide)).trans hct
                        refine lv_aload_n hx hb dX9_gather_143 rfl (lv_at hl 0 rfl) ?_
                        refine va_get (D := G.1) (ci := 8) (v := .ref (g 11)) (C := RX9) (T := TX9) (N := 6) hx hb hts inlX9 hown hG.1 hP 7 (wl_at (by decide) hwt) rfl 3 (by decide) (hts (.fieldLink RX9 21 "SwornLists$Waits" "foes" "[I") w_107) (fun _ h9 => h9) rfl dX9_gather_144 ?_
                        refine lv_iload hx hb dX9_gather_147 (lv_at hl 4 rfl) ?_
                        refine lv_dup2_11 hx hb dX9_gather_149 rfl rfl ?_
                        refine va_iald hx hb hG.1 hP 11 0 (wl_at (by decide) hw11) rfl (vp_in_nI (by omega) (by decide)) dX9_gather_150 ?_
                        refine lv_iconst (v := 1) hx hb dX9_gather_151 (by decide) ?_
                        refine lv_iload_n hx hb dX9_gather_152 rfl (lv_at hl 3 rfl) ?_
                        refine lv_ishl hx hb dX9_gather_153 ?_
                        refine lv_ior hx hb dX9_gather_154 ?_
                        refine va_iast hx hb hG.1 hP (wl_D hg f_9) hS 11 0 (wl_at (by decide) hw11) rfl (vp_in_nI (by omega) (by decide)) dX9_gather_155 (fun H locs hP _ hS => ?_)
                        obtain ⟨f_10, hP, e_10, o_10⟩ := b_put (by decide) hP
                        have hw11 : f_10 11 = eI G 6 (upd (upd o3 (Int32.toNatClampNeg (nI i2)) ((o3 (Int32.toNatClampNeg (nI i2))) ||| (1 <<< ((nI i3) &&& 31)))) (Int32.toNatClampNeg (nI i3)) (((upd o3 (Int32.toNatClampNeg (nI i2)) ((o3 (Int32.toNatClampNeg (nI i2))) ||| (1 <<< ((nI i3) &&& 31)))) (Int32.toNatClampNeg (nI i3))) ||| (1 <<< ((nI i2) &&& 31)))) := e_10
                        replace hwt := (o_10 7 (by decide)).trans hwt
                        replace hw8 := (o_10 8 (by decide)).trans hw8
                        replace hw9 := (o_10 9 (by decide)).trans hw9
                        replace hw10 := (o_10 10 (by decide)).trans hw10
                        replace hbk := (o_10 36 (by decide)).trans hbk
                        replace htr := (o_10 45 (by decide)).trans htr
                        replace hct := (o_10 46 (by decide)).trans hct
                        refine lv_iinc (v := nI (i3 + 1)) (lv' := [(4, .int (nI (i3 + 1))), (0, .ref (g 7)), (1, .ref (g 36)), (2, .int n), (3, .int (nI i2))]) hx hb dX9_gather_156 hl (k := 4) rfl (nI_1 i3) (by decide) rfl (fun ls hl => ?_)
                        refine lv_goto (tgt := 84) hx hb dX9_gather_159 (by decide) ?_
                        exact ih_3 (i3 + 1) (upd (upd o3 (Int32.toNatClampNeg (nI i2)) ((o3 (Int32.toNatClampNeg (nI i2))) ||| (1 <<< ((nI i3) &&& 31)))) (Int32.toNatClampNeg (nI i3)) (((upd o3 (Int32.toNatClampNeg (nI i2)) ((o3 (Int32.toNatClampNeg (nI i2))) ||| (1 <<< ((nI i3) &&& 31)))) (Int32.toNatClampNeg (nI i3))) ||| (1 <<< ((nI i2) &&& 31)))) f_10 _ _ _ (by omega) (by omega) (hwt) (hw8) (hw9) (hw10) (hw11) (hbk) (htr) (hct) (fun j hj => (((o_10 j (by omega))).trans (o_9 j (by omega))).trans (o_4 j (by omega))) hP hS (lv_sub hl [1, 2, 3, 4, 0] rfl)
              exact key3 (i2 + 1) 0 o2 f_3 _ _ _ (Nat.zero_le _) (by omega) (hwt) (hw8) (hw9) (hw10) (hw11) (hbk) (htr) (hct) (fun j _ => rfl) hP hS (lv_sub hl [1, 2, 3, 4, 0] rfl)
        exact key2 (m1 + 1) 0 o1 f_2 _ _ _ (Nat.zero_le _) (by omega) (hwt) (hw8) (hw9) (hw10) (hw11) (hbk) (htr) (hct) (fun j _ => rfl) hP hS (lv_sub hl [1, 2, 3, 0] rfl)
      · have hi9 : i < nt := Nat.not_le.mp (fun z => c_15 (nI_le z (by omega)))
        refine lv_aload_n hx hb dX9_gather_18 rfl (lv_at hl 0 rfl) ?_
        refine va_get (D := G.1) (ci := 8) (v := .int (nI m1)) (C := RX9) (T := TX9) (N := 6) hx hb hts inlX9 hown hG.1 hP 7 (wl_at (by decide) hwt) rfl 4 (by decide) (hts (.fieldLink RX9 24 "SwornLists$Waits" "many" "I") w_824) (fun _ h9 => h9) rfl dX9_gather_19 ?_
        refine lv_bipush (v := 6) hx hb dX9_gather_22 (by decide) ?_
        refine lv_icmp_ge (tgt := 71) hx hb dX9_gather_24 (by decide) (fun c_24 => ?_) (fun c_24 => ?_)
        · refine lv_iconst (v := 0) hx hb dX9_gather_71 (by decide) ?_
          refine lv_istore_n (lv' := [(3, .int 0), (0, .ref (g 7)), (1, .ref (g 36)), (2, .int n)]) hx hb dX9_gather_72 rfl hl (by decide) rfl (fun ls hl => ?_)
          have key6 : ∀ (n9_6 : Nat) (i2 : Nat) (o2 : Nat → Int32) (f_11 : Nat → va_E) (H : Heap) (locs : List Loc) (ls : Array Slot), (i2 ≤ m1) → m1 - i2 < n9_6 → f_11 7 = eO 8 [.ref (g 8), .ref (g 9), .ref (g 10), .ref (g 11), .int (nI m1), .int le] → f_11 8 = eI G 6 t1 → f_11 9 = eI G 6 ww → f_11 10 = eI G 6 wb → f_11 11 = eI G 6 o2 → f_11 36 = eO 0 [.ref (g 37), .ref (g 39), .ref (g 41), .ref (g 43), .ref (g 45), .ref (g 47), .ref (g 112), .int pay, .int fine] → f_11 45 = eO 5 [.int (nI 10), .int (nI 70), .ref (g 46), .int (nI nt)] → f_11 46 = eI G (10 * 70) ct → (∀ j, j ≠ 11 → f_11 j = f_2 j) → va_P G.1 vwCl (wl g f_11) H → va_S (gA g) s.heap H locs → lv_has ls 5 [(0, .ref (g 7)), (1, .ref (g 36)), (2, .int n), (3, .int (nI i2))] → W p l e (headSpec (wsT yX9_gather cX9_gather 5 none) ({ frames := 2, cells := 0, slots := 0, locals := 48 })).room s m ([.ref (g 7), .ref (g 36), .int n] : List Value).toArray below meth c H locs 0 0 (MQ below (bQv G g (fun (f' : Nat → va_E) => ∃ mn9 : Nat, ∃ wt9 : Nat → Int32, ∃ wf9 : Nat → Int32, f' 7 = eO 8 [.ref (g 8), .ref (g 9), .ref (g 10), .ref (g 11), .int (nI mn9), .int le] ∧ f' 8 = eI G 6 wt9 ∧ f' 11 = eI G 6 wf9 ∧ (mn9 ≤ 6) ∧ ∀ j, (j ≠ 7 ∧ j ≠ 8 ∧ j ≠ 11) → f' j = f j)) ([.ref (g 7), .ref (g 36), .int n] : List Value).toArray s 0 0 (gA g)) (F0 m 73 ls []) := by
            intro n9_6
            induction n9_6 with
            | zero => intro i2 o2 f_11 H locs ls hi2 hn9_6; exact absurd hn9_6 (Nat.not_lt_zero _)
            | succ n9_6 ih_6 =>
              intro i2 o2 f_11 H locs ls hi2 hn9_6 hwt hw8 hw9 hw10 hw11 hbk htr hct o_11 hP hS hl
              refine lv_iload_n hx hb dX9_gather_73 rfl (lv_at hl 3 rfl) ?_
              refine lv_aload_n hx hb dX9_gather_74 rfl (lv_at hl 0 rfl) ?_
              refine va_get (D := G.1) (ci := 8) (v := .int (nI m1)) (C := RX9) (T := TX9) (N := 6) hx hb hts inlX9 hown hG.1 hP 7 (wl_at (by decide) hwt) rfl 4 (by decide) (hts (.fieldLink RX9 24 "SwornLists$Waits" "many" "I") w_824) (fun _ h9 => h9) rfl dX9_gather_75 ?_
              refine lv_icmp_ge (tgt := 168) hx hb dX9_gather_78 (by decide) (fun c_78 => ?_) (fun c_78 => ?_)
              · exact W.vret hx hb hr (fun t ht hW => ⟨⟨f_11, rfl, (⟨m1, t1, o2, hwt, hw8, hw11, by omega, fun j hj => (((o_11 j (by omega))).trans (o_2 j (by omega))).trans (o_1 j (by omega))⟩), by rw [ht]; exact hP⟩, hS.F ht⟩) hS.2.2 dX9_gather_168
              · have hi29 : i2 < m1 := Nat.not_le.mp (fun z => c_78 (nI_le z (by omega)))
                refine lv_iconst (v := 0) hx hb dX9_gather_81 (by decide) ?_
                refine lv_istore (lv' := [(4, .int 0), (0, .ref (g 7)), (1, .ref (g 36)), (2, .int n), (3, .int (nI i2))]) hx hb dX9_gather_82 hl (by decide) rfl (fun ls hl => ?_)
                have key7 : ∀ (n9_7 : Nat) (i3 : Nat) (o3 : Nat → Int32) (f_12 : Nat → va_E) (H : Heap) (locs : List Loc) (ls : Array Slot), (i3 ≤ i2) → i2 - i3 < n9_7 → f_12 7 = eO 8 [.ref (g 8), .ref (g 9), .ref (g 10), .ref (g 11), .int (nI m1), .int le] → f_12 8 = eI G 6 t1 → f_12 9 = eI G 6 ww → f_12 10 = eI G 6 wb → f_12 11 = eI G 6 o3 → f_12 36 = eO 0 [.ref (g 37), .ref (g 39), .ref (g 41), .ref (g 43), .ref (g 45), .ref (g 47), .ref (g 112), .int pay, .int fine] → f_12 45 = eO 5 [.int (nI 10), .int (nI 70), .ref (g 46), .int (nI nt)] → f_12 46 = eI G (10 * 70) ct → (∀ j, j ≠ 11 → f_12 j = f_11 j) → va_P G.1 vwCl (wl g f_12) H → va_S (gA g) s.heap H locs → lv_has ls 5 [(0, .ref (g 7)), (1, .ref (g 36)), (2, .int n), (3, .int (nI i2)), (4, .int (nI i3))] → W p l e (headSpec (wsT yX9_gather cX9_gather 5 none) ({ frames := 2, cells := 0, slots := 0, locals := 48 })).room s m ([.ref (g 7), .ref (g 36), .int n] : List Value).toArray below meth c H locs 0 0 (MQ below (bQv G g (fun (f' : Nat → va_E) => ∃ mn9 : Nat, ∃ wt9 : Nat → Int32, ∃ wf9 : Nat → Int32, f' 7 = eO 8 [.ref (g 8), .ref (g 9), .ref (g 10), .ref (g 11), .int (nI mn9), .int le] ∧ f' 8 = eI G 6 wt9 ∧ f' 11 = eI G 6 wf9 ∧ (mn9 ≤ 6) ∧ ∀ j, (j ≠ 7 ∧ j ≠ 8 ∧ j ≠ 11) → f' j = f j)) ([.ref (g 7), .ref (g 36), .int n] : List Value).toArray s 0 0 (gA g)) (F0 m 84 ls []) := by
                  intro n9_7
                  induction n9_7 with
                  | zero => intro i3 o3 f_12 H locs ls hi3 hn9_7; exact absurd hn9_7 (Nat.not_lt_zero _)
                  | succ n9_7 ih_7 =>
                    intro i3 o3 f_12 H locs ls hi3 hn9_7 hwt hw8 hw9 hw10 hw11 hbk htr hct o_12 hP hS hl
                    refine lv_iload hx hb dX9_gather_84 (lv_at hl 4 rfl) ?_
                    refine lv_iload_n hx hb dX9_gather_86 rfl (lv_at hl 3 rfl) ?_
                    refine lv_icmp_ge (tgt := 162) hx hb dX9_gather_87 (by decide) (fun c_87 => ?_) (fun c_87 => ?_)
                    · refine lv_iinc (v := nI (i2 + 1)) (lv' := [(3, .int (nI (i2 + 1))), (0, .ref (g 7)), (1, .ref (g 36)), (2, .int n), (4, .int (nI i3))]) hx hb dX9_gather_162 hl (k := 3) rfl (nI_1 i2) (by decide) rfl (fun ls hl => ?_)
                      refine lv_goto (tgt := 73) hx hb dX9_gather_165 (by decide) ?_
                      exact ih_6 (i2 + 1) o3 f_12 _ _ _ (by omega) (by omega) (hwt) (hw8) (hw9) (hw10) (hw11) (hbk) (htr) (hct) (fun j hj => ((o_12 j (by omega))).trans (o_11 j (by omega))) hP hS (lv_sub hl [1, 2, 3, 0] rfl)
                    · have hi39 : i3 < i2 := Nat.not_le.mp (fun z => c_87 (nI_le z (by omega)))
                      refine lv_aload_n hx hb dX9_gather_90 rfl (lv_at hl 1 rfl) ?_
                      refine lv_aload_n hx hb dX9_gather_91 rfl (lv_at hl 0 rfl) ?_
                      refine va_get (D := G.1) (ci := 8) (v := .ref (g 8)) (C := RX9) (T := TX9) (N := 6) hx hb hts inlX9 hown hG.1 hP 7 (wl_at (by decide) hwt) rfl 0 (by decide) (hts (.fieldLink RX9 11 "SwornLists$Waits" "trials" "[I") w_104) (fun _ h9 => h9) rfl dX9_gather_92 ?_
                      refine lv_iload_n hx hb dX9_gather_95 rfl (lv_at hl 3 rfl) ?_
                      refine va_iald hx hb hG.1 hP 8 0 (wl_at (by decide) hw8) rfl (vp_in_nI (by omega) (by decide)) dX9_gather_96 ?_
                      refine lv_aload_n hx hb dX9_gather_97 rfl (lv_at hl 0 rfl) ?_
                      refine va_get (D := G.1) (ci := 8) (v := .ref (g 8)) (C := RX9) (T := TX9) (N := 6) hx hb hts inlX9 hown hG.1 hP 7 (wl_at (by decide) hwt) rfl 0 (by decide) (hts (.fieldLink RX9 11 "SwornLists$Waits" "trials" "[I") w_104) (fun _ h9 => h9) rfl dX9_gather_98 ?_
                      refine lv_iload hx hb dX9_gather_101 (lv_at hl 4 rfl) ?_
                      refine va_iald hx hb hG.1 hP 8 0 (wl_at (by decide) hw8) rfl (vp_in_nI (by omega) (by decide)) dX9_gather_103 ?_
                      refine rd_calli (va_runV (As := [.int (t1 (Int32.toNatClampNeg (nI i2))), .int (t1 (Int32.toNatClampNeg (nI i3)))]) (rest := []) ⟨hx, hb, hml, hown, hts⟩ (k_shareFamily l G g hg f_12 pay fine nt ct (t1 (Int32.toNatClampNeg (nI i2))) (t1 (Int32.toNatClampNeg (nI i3))) hbk htr hct (by first | assumption | omega | decide)) (my_cwV hts ok_X0_shareFamily w_833 rfl rfl ⟨Nat.le_of_ble_eq_true rfl, Nat.le_of_ble_eq_true rfl⟩) ⟨bP.blind, va_recv hG.1 hP (ci := 0) (q0 := 36) rfl (wl_at (by decide) hbk), fun U hU hW => ⟨rfl, by rw [hU]; exact hP, kG.warm hW hG⟩⟩ rfl rfl hl.1 rfl (lv_room (Nat.le_of_ble_eq_true rfl)) dX9_gather_104 ⟨Nat.le_of_ble_eq_true rfl, Nat.le_of_ble_eq_true rfl⟩) (fun r hr9 => ?_)
                      obtain ⟨bz8, rfl⟩ := hr9
                      refine my_ifne (tgt := 130) hx hb dX9_gather_107 (by decide) (fun c_107 => ?_) (fun c_107 => ?_)
                      · refine lv_aload_n hx hb dX9_gather_130 rfl (lv_at hl 0 rfl) ?_
                        refine va_get (D := G.1) (ci := 8) (v := .ref (g 11)) (C := RX9) (T := TX9) (N := 6) hx hb hts inlX9 hown hG.1 hP 7 (wl_at (by decide) hwt) rfl 3 (by decide) (hts (.fieldLink RX9 21 "SwornLists$Waits" "foes" "[I") w_107) (fun _ h9 => h9) rfl dX9_gather_131 ?_
                        refine lv_iload_n hx hb dX9_gather_134 rfl (lv_at hl 3 rfl) ?_
                        refine lv_dup2_11 hx hb dX9_gather_135 rfl rfl ?_
                        refine va_iald hx hb hG.1 hP 11 0 (wl_at (by decide) hw11) rfl (vp_in_nI (by omega) (by decide)) dX9_gather_136 ?_
                        refine lv_iconst (v := 1) hx hb dX9_gather_137 (by decide) ?_
                        refine lv_iload hx hb dX9_gather_138 (lv_at hl 4 rfl) ?_
                        refine lv_ishl hx hb dX9_gather_140 ?_
                        refine lv_ior hx hb dX9_gather_141 ?_
                        refine va_iast hx hb hG.1 hP (wl_D hg f_12) hS 11 0 (wl_at (by decide) hw11) rfl (vp_in_nI (by omega) (by decide)) dX9_gather_142 (fun H locs hP _ hS => ?_)
                        obtain ⟨f_14, hP, e_14, o_14⟩ := b_put (by decide) hP
                        have hw11 : f_14 11 = eI G 6 (upd o3 (Int32.toNatClampNeg (nI i2)) ((o3 (Int32.toNatClampNeg (nI i2))) ||| (1 <<< ((nI i3) &&& 31)))) := e_14
                        replace hwt := (o_14 7 (by decide)).trans hwt
                        replace hw8 := (o_14 8 (by decide)).trans hw8
                        replace hw9 := (o_14 9 (by decide)).trans hw9
                        replace hw10 := (o_14 10 (by decide)).trans hw10
                        replace hbk := (o_14 36 (by decide)).trans hbk
                        replace htr := (o_14 45 (by decide)).trans htr
                        replace hct := (o_14 46 (by decide)).trans hct
                        refine lv_aload_n hx hb dX9_gather_143 rfl (lv_at hl 0 rfl) ?_
                        refine va_get (D := G.1) (ci := 8) (v := .ref (g 11)) (C := RX9) (T := TX9) (N := 6) hx hb hts inlX9 hown hG.1 hP 7 (wl_at (by decide) hwt) rfl 3 (by decide) (hts (.fieldLink RX9 21 "SwornLists$Waits" "foes" "[I") w_107) (fun _ h9 => h9) rfl dX9_gather_144 ?_
                        refine lv_iload hx hb dX9_gather_147 (lv_at hl 4 rfl) ?_
                        refine lv_dup2_11 hx hb dX9_gather_149 rfl rfl ?_
                        refine va_iald hx hb hG.1 hP 11 0 (wl_at (by decide) hw11) rfl (vp_in_nI (by omega) (by decide)) dX9_gather_150 ?_
                        refine lv_iconst (v := 1) hx hb dX9_gather_151 (by decide) ?_
                        refine lv_iload_n hx hb dX9_gather_152 rfl (lv_at hl 3 rfl) ?_
                        refine lv_ishl hx hb dX9_gather_153 ?_
                        refine lv_ior hx hb dX9_gather_154 ?_
                        refine va_iast hx hb hG.1 hP (wl_D hg f_14) hS 11 0 (wl_at (by decide) hw11) rfl (vp_in_nI (by omega) (by decide)) dX9_gather_155 (fun H locs hP _ hS => ?_)
                        obtain ⟨f_15, hP, e_15, o_15⟩ := b_put (by decide) hP
                        have hw11 : f_15 11 = eI G 6 (upd (upd o3 (Int32.toNatClampNeg (nI i2)) ((o3 (Int32.toNatClampNeg (nI i2))) ||| (1 <<< ((nI i3) &&& 31)))) (Int32.toNatClampNeg (nI i3)) (((upd o3 (Int32.toNatClampNeg (nI i2)) ((o3 (Int32.toNatClampNeg (nI i2))) ||| (1 <<< ((nI i3) &&& 31)))) (Int32.toNatClampNeg (nI i3))) ||| (1 <<< ((nI i2) &&& 31)))) := e_15
                        replace hwt := (o_15 7 (by decide)).trans hwt
                        replace hw8 := (o_15 8 (by decide)).trans hw8
                        replace hw9 := (o_15 9 (by decide)).trans hw9
                        replace hw10 := (o_15 10 (by decide)).trans hw10
                        replace hbk := (o_15 36 (by decide)).trans hbk
                        replace htr := (o_15 45 (by decide)).trans htr
                        replace hct := (o_15 46 (by decide)).trans hct
                        refine lv_iinc (v := nI (i3 + 1)) (lv' := [(4, .int (nI (i3 + 1))), (0, .ref (g 7)), (1, .ref (g 36)), (2, .int n), (3, .int (nI i2))]) hx hb dX9_gather_156 hl (k := 4) rfl (nI_1 i3) (by decide) rfl (fun ls hl => ?_)
                        refine lv_goto (tgt := 84) hx hb dX9_gather_159 (by decide) ?_
                        exact ih_7 (i3 + 1) (upd (upd o3 (Int32.toNatClampNeg (nI i2)) ((o3 (Int32.toNatClampNeg (nI i2))) ||| (1 <<< ((nI i3) &&& 31)))) (Int32.toNatClampNeg (nI i3)) (((upd o3 (Int32.toNatClampNeg (nI i2)) ((o3 (Int32.toNatClampNeg (nI i2))) ||| (1 <<< ((nI i3) &&& 31)))) (Int32.toNatClampNeg (nI i3))) ||| (1 <<< ((nI i2) &&& 31)))) f_15 _ _ _ (by omega) (by omega) (hwt) (hw8) (hw9) (hw10) (hw11) (hbk) (htr) (hct) (fun j hj => (((o_15 j (by omega))).trans (o_14 j (by omega))).trans (o_12 j (by omega))) hP hS (lv_sub hl [1, 2, 3, 4, 0] rfl)
                      · refine lv_aload_n hx hb dX9_gather_110 rfl (lv_at hl 1 rfl) ?_
                        refine lv_aload_n hx hb dX9_gather_111 rfl (lv_at hl 0 rfl) ?_
                        refine va_get (D := G.1) (ci := 8) (v := .ref (g 8)) (C := RX9) (T := TX9) (N := 6) hx hb hts inlX9 hown hG.1 hP 7 (wl_at (by decide) hwt) rfl 0 (by decide) (hts (.fieldLink RX9 11 "SwornLists$Waits" "trials" "[I") w_104) (fun _ h9 => h9) rfl dX9_gather_112 ?_
                        refine lv_iload_n hx hb dX9_gather_115 rfl (lv_at hl 3 rfl) ?_
                        refine va_iald hx hb hG.1 hP 8 0 (wl_at (by decide) hw8) rfl (vp_in_nI (by omega) (by decide)) dX9_gather_116 ?_
                        refine lv_aload_n hx hb dX9_gather_117 rfl (lv_at hl 0 rfl) ?_
                        refine va_get (D := G.1) (ci := 8) (v := .ref (g 8)) (C := RX9) (T := TX9) (N := 6) hx hb hts inlX9 hown hG.1 hP 7 (wl_at (by decide) hwt) rfl 0 (by decide) (hts (.fieldLink RX9 11 "SwornLists$Waits" "trials" "[I") w_104) (fun _ h9 => h9) rfl dX9_gather_118 ?_
                        refine lv_iload hx hb dX9_gather_121 (lv_at hl 4 rfl) ?_
                        refine va_iald hx hb hG.1 hP 8 0 (wl_at (by decide) hw8) rfl (vp_in_nI (by omega) (by decide)) dX9_gather_123 ?_
                        refine rd_calli (va_runV (As := [.int (t1 (Int32.toNatClampNeg (nI i2))), .int (t1 (Int32.toNatClampNeg (nI i3)))]) (rest := []) ⟨hx, hb, hml, hown, hts⟩ (k_shareTrade l G g hg f_12 pay fine nt ct (t1 (Int32.toNatClampNeg (nI i2))) (t1 (Int32.toNatClampNeg (nI i3))) hbk htr hct (by first | assumption | omega | decide)) (my_cwV hts ok_X0_shareTrade w_837 rfl rfl ⟨Nat.le_of_ble_eq_true rfl, Nat.le_of_ble_eq_true rfl⟩) ⟨bP.blind, va_recv hG.1 hP (ci := 0) (q0 := 36) rfl (wl_at (by decide) hbk), fun U hU hW => ⟨rfl, by rw [hU]; exact hP, kG.warm hW hG⟩⟩ rfl rfl hl.1 rfl (lv_room (Nat.le_of_ble_eq_true rfl)) dX9_gather_124 ⟨Nat.le_of_ble_eq_true rfl, Nat.le_of_ble_eq_true rfl⟩) (fun r hr9 => ?_)
                        obtain ⟨bz9, rfl⟩ := hr9
                        refine my_ifeq (tgt := 156) hx hb dX9_gather_127 (by decide) (fun c_127 => ?_) (fun c_127 => ?_)
                        · refine lv_iinc (v := nI (i3 + 1)) (lv' := [(4, .int (nI (i3 + 1))), (0, .ref (g 7)), (1, .ref (g 36)), (2, .int n), (3, .int (nI i2))]) hx hb dX9_gather_156 hl (k := 4) rfl (nI_1 i3) (by decide) rfl (fun ls hl => ?_)
                          refine lv_goto (tgt := 84) hx hb dX9_gather_159 (by decide) ?_
                          exact ih_7 (i3 + 1) o3 f_12 _ _ _ (by omega) (by omega) (hwt) (hw8) (hw9) (hw10) (hw11) (hbk) (htr) (hct) (fun j hj => (o_12 j (by omega))) hP hS (lv_sub hl [1, 2, 3, 4, 0] rfl)
                        · refine lv_aload_n hx hb dX9_gather_130 rfl (lv_at hl 0 rfl) ?_
                          refine va_get (D := G.1) (ci := 8) (v := .ref (g 11)) (C := RX9) (T := TX9) (N := 6) hx hb hts inlX9 hown hG.1 hP 7 (wl_at (by decide) hwt) rfl 3 (by decide) (hts (.fieldLink RX9 21 "SwornLists$Waits" "foes" "[I") w_107) (fun _ h9 => h9) rfl dX9_gather_131 ?_
                          refine lv_iload_n hx hb dX9_gather_134 rfl (lv_at hl 3 rfl) ?_
                          refine lv_dup2_11 hx hb dX9_gather_135 rfl rfl ?_
                          refine va_iald hx hb hG.1 hP 11 0 (wl_at (by decide) hw11) rfl (vp_in_nI (by omega) (by decide)) dX9_gather_136 ?_
                          refine lv_iconst (v := 1) hx hb dX9_gather_137 (by decide) ?_
                          refine lv_iload hx hb dX9_gather_138 (lv_at hl 4 rfl) ?_
                          refine lv_ishl hx hb dX9_gather_140 ?_
                          refine lv_ior hx hb dX9_gather_141 ?_
                          refine va_iast hx hb hG.1 hP (wl_D hg f_12) hS 11 0 (wl_at (by decide) hw11) rfl (vp_in_nI (by omega) (by decide)) dX9_gather_142 (fun H locs hP _ hS => ?_)
                          obtain ⟨f_17, hP, e_17, o_17⟩ := b_put (by decide) hP
                          have hw11 : f_17 11 = eI G 6 (upd o3 (Int32.toNatClampNeg (nI i2)) ((o3 (Int32.toNatClampNeg (nI i2))) ||| (1 <<< ((nI i3) &&& 31)))) := e_17
                          replace hwt := (o_17 7 (by decide)).trans hwt
                          replace hw8 := (o_17 8 (by decide)).trans hw8
                          replace hw9 := (o_17 9 (by decide)).trans hw9
                          replace hw10 := (o_17 10 (by decide)).trans hw10
                          replace hbk := (o_17 36 (by decide)).trans hbk
                          replace htr := (o_17 45 (by decide)).trans htr
                          replace hct := (o_17 46 (by decide)).trans hct
                          refine lv_aload_n hx hb dX9_gather_143 rfl (lv_at hl 0 rfl) ?_
                          refine va_get (D := G.1) (ci := 8) (v := .ref (g 11)) (C := RX9) (T := TX9) (N := 6) hx hb hts inlX9 hown hG.1 hP 7 (wl_at (by decide) hwt) rfl 3 (by decide) (hts (.fieldLink RX9 21 "SwornLists$Waits" "foes" "[I") w_107) (fun _ h9 => h9) rfl dX9_gather_144 ?_
                          refine lv_iload hx hb dX9_gather_147 (lv_at hl 4 rfl) ?_
                          refine lv_dup2_11 hx hb dX9_gather_149 rfl rfl ?_
                          refine va_iald hx hb hG.1 hP 11 0 (wl_at (by decide) hw11) rfl (vp_in_nI (by omega) (by decide)) dX9_gather_150 ?_
                          refine lv_iconst (v := 1) hx hb dX9_gather_151 (by decide) ?_
                          refine lv_iload_n hx hb dX9_gather_152 rfl (lv_at hl 3 rfl) ?_
                          refine lv_ishl hx hb dX9_gather_153 ?_
                          refine lv_ior hx hb dX9_gather_154 ?_
                          refine va_iast hx hb hG.1 hP (wl_D hg f_17) hS 11 0 (wl_at (by decide) hw11) rfl (vp_in_nI (by omega) (by decide)) dX9_gather_155 (fun H locs hP _ hS => ?_)
                          obtain ⟨f_18, hP, e_18, o_18⟩ := b_put (by decide) hP
                          have hw11 : f_18 11 = eI G 6 (upd (upd o3 (Int32.toNatClampNeg (nI i2)) ((o3 (Int32.toNatClampNeg (nI i2))) ||| (1 <<< ((nI i3) &&& 31)))) (Int32.toNatClampNeg (nI i3)) (((upd o3 (Int32.toNatClampNeg (nI i2)) ((o3 (Int32.toNatClampNeg (nI i2))) ||| (1 <<< ((nI i3) &&& 31)))) (Int32.toNatClampNeg (nI i3))) ||| (1 <<< ((nI i2) &&& 31)))) := e_18
                          replace hwt := (o_18 7 (by decide)).trans hwt
                          replace hw8 := (o_18 8 (by decide)).trans hw8
                          replace hw9 := (o_18 9 (by decide)).trans hw9
                          replace hw10 := (o_18 10 (by decide)).trans hw10
                          replace hbk := (o_18 36 (by decide)).trans hbk
                          replace htr := (o_18 45 (by decide)).trans htr
                          replace hct := (o_18 46 (by decide)).trans hct
                          refine lv_iinc (v := nI (i3 + 1)) (lv' := [(4, .int (nI (i3 + 1))), (0, .ref (g 7)), (1, .ref (g 36)), (2, .int n), (3, .int (nI i2))]) hx hb dX9_gather_156 hl (k := 4) rfl (nI_1 i3) (by decide) rfl (fun ls hl => ?_)
                          refine lv_goto (tgt := 84) hx hb dX9_gather_159 (by decide) ?_
                          exact ih_7 (i3 + 1) (upd (upd o3 (Int32.toNatClampNeg (nI i2)) ((o3 (Int32.toNatClampNeg (nI i2))) ||| (1 <<< ((nI i3) &&& 31)))) (Int32.toNatClampNeg (nI i3)) (((upd o3 (Int32.toNatClampNeg (nI i2)) ((o3 (Int32.toNatClampNeg (nI i2))) ||| (1 <<< ((nI i3) &&& 31)))) (Int32.toNatClampNeg (nI i3))) ||| (1 <<< ((nI i2) &&& 31)))) f_18 _ _ _ (by omega) (by omega) (hwt) (hw8) (hw9) (hw10) (hw11) (hbk) (htr) (hct) (fun j hj => (((o_18 j (by omega))).trans (o_17 j (by omega))).trans (o_12 j (by omega))) hP hS (lv_sub hl [1, 2, 3, 4, 0] rfl)
                exact key7 (i2 + 1) 0 o2 f_11 _ _ _ (Nat.zero_le _) (by omega) (hwt) (hw8) (hw9) (hw10) (hw11) (hbk) (htr) (hct) (fun j _ => rfl) hP hS (lv_sub hl [1, 2, 3, 4, 0] rfl)
          exact key6 (m1 + 1) 0 o1 f_2 _ _ _ (Nat.zero_le _) (by omega) (hwt) (hw8) (hw9) (hw10) (hw11) (hbk) (htr) (hct) (fun j _ => rfl) hP hS (lv_sub hl [1, 2, 3, 0] rfl)
        · have hm6 : m1 < 6 := Nat.not_le.mp (fun z => c_24 (nI_le (a := 6) z (by omega)))
          refine lv_iload_n hx hb dX9_gather_27 rfl (lv_at hl 2 rfl) ?_
          refine lv_iload_n hx hb dX9_gather_28 rfl (lv_at hl 3 rfl) ?_
          refine rd_calli (va_runSN (As := [.int n, .int (nI i)]) (rest := []) ⟨hx, hb, hml, hown, hts⟩ (s_hasBit l G g hg f_2 n (nI i)  ) (⟨my_cn hts ok_X10_hasBit.1 (hG.2.1 (.methodLinkNest RX9 64 yX10_hasBit RX10) (List.mem_of_getElem? (i := 35) rfl)) rfl rfl ⟨Nat.le_of_ble_eq_true rfl, Nat.le_of_ble_eq_true rfl⟩, hts _ ok_X10_hasBit.2.2.1, trivial⟩) ⟨bP.blind, fun U hU hW => ⟨rfl, by rw [hU]; exact hP, kG.warm hW hG⟩⟩ rfl rfl hl.1 rfl (lv_room (Nat.le_of_ble_eq_true rfl)) dX9_gather_29 ⟨Nat.le_of_ble_eq_true rfl, Nat.le_of_ble_eq_true rfl⟩) (fun r hr9 => ?_)
          subst hr9
          refine my_ifeq (tgt := 65) hx hb dX9_gather_32 (by decide) (fun c_32 => ?_) (fun c_32 => ?_)
          · refine lv_iinc (v := nI (i + 1)) (lv' := [(3, .int (nI (i + 1))), (0, .ref (g 7)), (1, .ref (g 36)), (2, .int n)]) hx hb dX9_gather_65 hl (k := 3) rfl (nI_1 i) (by decide) rfl (fun ls hl => ?_)
            refine lv_goto (tgt := 7) hx hb dX9_gather_68 (by decide) ?_
            exact ih_1 (i + 1) m1 t1 o1 f_2 _ _ _ (hi9) (by omega) (by omega) (hwt) (hw8) (hw9) (hw10) (hw11) (hbk) (htr) (hct) (fun j hj => (o_2 j (by omega))) hP hS (lv_sub hl [1, 2, 3, 0] rfl)
          · refine lv_aload_n hx hb dX9_gather_35 rfl (lv_at hl 0 rfl) ?_
            refine va_get (D := G.1) (ci := 8) (v := .ref (g 8)) (C := RX9) (T := TX9) (N := 6) hx hb hts inlX9 hown hG.1 hP 7 (wl_at (by decide) hwt) rfl 0 (by decide) (hts (.fieldLink RX9 11 "SwornLists$Waits" "trials" "[I") w_104) (fun _ h9 => h9) rfl dX9_gather_36 ?_
            refine lv_aload_n hx hb dX9_gather_39 rfl (lv_at hl 0 rfl) ?_
            refine va_get (D := G.1) (ci := 8) (v := .int (nI m1)) (C := RX9) (T := TX9) (N := 6) hx hb hts inlX9 hown hG.1 hP 7 (wl_at (by decide) hwt) rfl 4 (by decide) (hts (.fieldLink RX9 24 "SwornLists$Waits" "many" "I") w_824) (fun _ h9 => h9) rfl dX9_gather_40 ?_
            refine lv_iload_n hx hb dX9_gather_43 rfl (lv_at hl 3 rfl) ?_
            refine va_iast hx hb hG.1 hP (wl_D hg f_2) hS 8 0 (wl_at (by decide) hw8) rfl (vp_in_nI (by omega) (by decide)) dX9_gather_44 (fun H locs hP _ hS => ?_)
            obtain ⟨f_19, hP, e_19, o_19⟩ := b_put (by decide) hP
            have hw8 : f_19 8 = eI G 6 (upd t1 (Int32.toNatClampNeg (nI m1)) (nI i)) := e_19
            replace hwt := (o_19 7 (by decide)).trans hwt
            replace hw9 := (o_19 9 (by decide)).trans hw9
            replace hw10 := (o_19 10 (by decide)).trans hw10
            replace hw11 := (o_19 11 (by decide)).trans hw11
            replace hbk := (o_19 36 (by decide)).trans hbk
            replace htr := (o_19 45 (by decide)).trans htr
            replace hct := (o_19 46 (by decide)).trans hct
            refine lv_aload_n hx hb dX9_gather_45 rfl (lv_at hl 0 rfl) ?_
            refine va_get (D := G.1) (ci := 8) (v := .ref (g 11)) (C := RX9) (T := TX9) (N := 6) hx hb hts inlX9 hown hG.1 hP 7 (wl_at (by decide) hwt) rfl 3 (by decide) (hts (.fieldLink RX9 21 "SwornLists$Waits" "foes" "[I") w_107) (fun _ h9 => h9) rfl dX9_gather_46 ?_
            refine lv_aload_n hx hb dX9_gather_49 rfl (lv_at hl 0 rfl) ?_
            refine va_get (D := G.1) (ci := 8) (v := .int (nI m1)) (C := RX9) (T := TX9) (N := 6) hx hb hts inlX9 hown hG.1 hP 7 (wl_at (by decide) hwt) rfl 4 (by decide) (hts (.fieldLink RX9 24 "SwornLists$Waits" "many" "I") w_824) (fun _ h9 => h9) rfl dX9_gather_50 ?_
            refine lv_iconst (v := 0) hx hb dX9_gather_53 (by decide) ?_
            refine va_iast hx hb hG.1 hP (wl_D hg f_19) hS 11 0 (wl_at (by decide) hw11) rfl (vp_in_nI (by omega) (by decide)) dX9_gather_54 (fun H locs hP _ hS => ?_)
            obtain ⟨f_20, hP, e_20, o_20⟩ := b_put (by decide) hP
            have hw11 : f_20 11 = eI G 6 (upd o1 (Int32.toNatClampNeg (nI m1)) 0) := e_20
            replace hwt := (o_20 7 (by decide)).trans hwt
            replace hw8 := (o_20 8 (by decide)).trans hw8
            replace hw9 := (o_20 9 (by decide)).trans hw9
            replace hw10 := (o_20 10 (by decide)).trans hw10
            replace hbk := (o_20 36 (by decide)).trans hbk
            replace htr := (o_20 45 (by decide)).trans htr
            replace hct := (o_20 46 (by decide)).trans hct
            refine lv_aload_n hx hb dX9_gather_55 rfl (lv_at hl 0 rfl) ?_
            refine lv_dup hx hb dX9_gather_56 rfl ?_
            refine va_get (D := G.1) (ci := 8) (v := .int (nI m1)) (C := RX9) (T := TX9) (N := 6) hx hb hts inlX9 hown hG.1 hP 7 (wl_at (by decide) hwt) rfl 4 (by decide) (hts (.fieldLink RX9 24 "SwornLists$Waits" "many" "I") w_824) (fun _ h9 => h9) rfl dX9_gather_57 ?_
            refine lv_iconst (v := 1) hx hb dX9_gather_60 (by decide) ?_
            refine lv_iadd hx hb dX9_gather_61 ?_
            refine my_bei (v := nI (m1 + 1)) (nI_1 m1) ?_
            refine va_put (D := G.1) (ci := 8) (v := .int (nI (m1 + 1))) (ty := .int) (C := RX9) (T := TX9) (N := 6) hx hb hts inlX9 tyX9 tyX9_ok nmX9 hown hG.1 hP (wl_D hg f_20) hS 7 (wl_at (by decide) hwt) rfl 4 (by decide) (hts (.fieldLink RX9 24 "SwornLists$Waits" "many" "I") w_824) (fun _ h9 => h9) rfl (by decide +kernel) rfl rfl (Nat.le_of_ble_eq_true rfl) dX9_gather_62 (fun H locs hP _ hS => ?_)
            obtain ⟨f_21, hP, e_21, o_21⟩ := b_put (by decide) hP
            have hwt : f_21 7 = eO 8 [.ref (g 8), .ref (g 9), .ref (g 10), .ref (g 11), .int (nI (m1 + 1)), .int le] := e_21
            replace hw8 := (o_21 8 (by decide)).trans hw8
            replace hw9 := (o_21 9 (by decide)).trans hw9
            replace hw10 := (o_21 10 (by decide)).trans hw10
            replace hw11 := (o_21 11 (by decide)).trans hw11
            replace hbk := (o_21 36 (by decide)).trans hbk
            replace htr := (o_21 45 (by decide)).trans htr
            replace hct := (o_21 46 (by decide)).trans hct
            refine lv_iinc (v := nI (i + 1)) (lv' := [(3, .int (nI (i + 1))), (0, .ref (g 7)), (1, .ref (g 36)), (2, .int n)]) hx hb dX9_gather_65 hl (k := 3) rfl (nI_1 i) (by decide) rfl (fun ls hl => ?_)
            refine lv_goto (tgt := 7) hx hb dX9_gather_68 (by decide) ?_
            exact ih_1 (i + 1) (m1 + 1) (upd t1 (Int32.toNatClampNeg (nI m1)) (nI i)) (upd o1 (Int32.toNatClampNeg (nI m1)) 0) f_21 _ _ _ (hi9) (by omega) (by omega) (hwt) (hw8) (hw9) (hw10) (hw11) (hbk) (htr) (hct) (fun j hj => ((((o_21 j (by omega))).trans (o_20 j (by omega))).trans (o_19 j (by omega))).trans (o_2 j (by omega))) hP hS (lv_sub hl [1, 2, 3, 0] rfl)
  exact key1 (nt + 1) 0 0 wt wf f_1 _ _ _ (Nat.zero_le _) (Nat.zero_le _) (by omega) (hwt) (hw8) (hw9) (hw10) (hw11) (hbk) (htr) (hct) (fun j _ => rfl) hP hS (lv_sub hl [1, 2, 3, 0] rfl)
set_option maxHeartbeats 4000000 in
set_option maxRecDepth 100000 in
theorem v_seek (l : Launch) (G : gW) (g : Nat → Nat) (hg : gOK g) (f : Nat → va_E) (mn : Nat) (le : Int32) (wt : Nat → Int32) (ww : Nat → Int32) (wb : Nat → Int32) (wf : Nat → Int32) (pay : Int32) (fine : Int32) (nt : Nat) (ct : Nat → Int32) (n : Int32) (hwt : f 7 = eO 8 [.ref (g 8), .ref (g 9), .ref (g 10), .ref (g 11), .int (nI mn), .int le]) (hw8 : f 8 = eI G 6 wt) (hw9 : f 9 = eI G 6 ww) (hw10 : f 10 = eI G 6 wb) (hw11 : f 11 = eI G 6 wf) (hbk : f 36 = eO 0 [.ref (g 37), .ref (g 39), .ref (g 41), .ref (g 43), .ref (g 45), .ref (g 47), .ref (g 112), .int pay, .int fine]) (htr : f 45 = eO 5 [.int (nI 10), .int (nI 70), .ref (g 46), .int (nI nt)]) (hct : f 46 = eI G (10 * 70) ct) (hmn : mn ≤ 6) (hnt : nt ≤ 10) : Met l yX9_seek (wsT yX9_seek cX9_seek 6 none) ({ frames := 3, cells := 0, slots := 0, locals := 72 }) (bP G g f [.ref (g 7), .ref (g 36), .int n]) (bQv G g (fun (f' : Nat → va_E) => ∃ mn9 : Nat, ∃ le9 : Int32, ∃ wt9 : Nat → Int32, ∃ ww9 : Nat → Int32, ∃ wb9 : Nat → Int32, ∃ wf9 : Nat → Int32, f' 7 = eO 8 [.ref (g 8), .ref (g 9), .ref (g 10), .ref (g 11), .int (nI mn9), .int le9] ∧ f' 8 = eI G 6 wt9 ∧ f' 9 = eI G 6 ww9 ∧ f' 10 = eI G 6 wb9 ∧ f' 11 = eI G 6 wf9 ∧ (mn9 ≤ 6) ∧ ∀ j, (j < 7 ∨ 11 < j) → f' j = f j)) 0 0 (gA g) := by
  refine Met.ofW (cc := cX9_seek) (maxL := 6) (ret := none) (by decide) rfl ?_
  intro p e s m args below meth c s₁ B hml hv
  obtain ⟨rfl, hP, hG⟩ := hv
  have hx := B.exec
  have hb := B.bytes
  have hr := B.returns
  have hts := my_hts (atoms_spec (ws := wsT yX9_seek cX9_seek 6 none) B.pre)
  have hown : s.vm.findClass RX9 = some m.cls := findClass_of_methodNamed B.named
  have hlocks := B.notSynchronized
  have hS : va_S (gA g) s.heap s.heap [] := va_S.rf
  have hl := lv_entry ([.ref (g 7), .ref (g 36), .int n]) (n := 6) (Nat.le_of_ble_eq_true rfl)
  rw [lg_entry_eq]
  generalize (lg_sl ([.ref (g 7), .ref (g 36), .int n]) ++ List.replicate (6 - (lg_sl ([.ref (g 7), .ref (g 36), .int n])).length) Slot.unset).toArray = ls at hl ⊢
  have hl : lv_has ls 6 [(0, .ref (g 7)), (1, .ref (g 36)), (2, .int n)] := hl
  refine lv_aload_n hx hb dX9_seek_0 rfl (lv_at hl 0 rfl) ?_
  refine lv_aload_n hx hb dX9_seek_1 rfl (lv_at hl 1 rfl) ?_
  refine lv_iload_n hx hb dX9_seek_2 rfl (lv_at hl 2 rfl) ?_
  refine b_callv (va_runV (As := [.ref (g 36), .int n]) (rest := []) ⟨hx, hb, hml, hown, hts⟩ (v_gather l G g hg f mn le wt ww wb wf pay fine nt ct n hwt hw8 hw9 hw10 hw11 hbk htr hct (by first | assumption | omega | decide) (by first | assumption | omega | decide)) (my_cwV hts ok_X9_gather w_828 rfl rfl ⟨Nat.le_of_ble_eq_true rfl, Nat.le_of_ble_eq_true rfl⟩) ⟨bP.blind, va_recv hG.1 hP (ci := 8) (q0 := 7) rfl (wl_at (by decide) hwt), fun U hU hW => ⟨rfl, by rw [hU]; exact hP, kG.warm hW hG⟩⟩ rfl rfl hl.1 rfl (lv_room (Nat.le_of_ble_eq_true rfl)) dX9_seek_3 ⟨Nat.le_of_ble_eq_true rfl, Nat.le_of_ble_eq_true rfl⟩) hS (fun f_1 H locs hq9 hP hS => ?_)
  obtain ⟨mn91, wt92, wf93, hq_1_0, hq_1_1, hq_1_2, hx_1_0, o_1⟩ := hq9
  replace hw9 := (o_1 9 (by first | decide | omega)).trans hw9
  replace hw10 := (o_1 10 (by first | decide | omega)).trans hw10
  replace hbk := (o_1 36 (by first | decide | omega)).trans hbk
  replace htr := (o_1 45 (by first | decide | omega)).trans htr
  replace hct := (o_1 46 (by first | decide | omega)).trans hct
  have hwt : f_1 7 = eO 8 [.ref (g 8), .ref (g 9), .ref (g 10), .ref (g 11), .int (nI mn91), .int le] := hq_1_0
  have hw8 : f_1 8 = eI G 6 wt92 := hq_1_1
  have hw11 : f_1 11 = eI G 6 wf93 := hq_1_2
  refine lv_aload_n hx hb dX9_seek_6 rfl (lv_at hl 0 rfl) ?_
  refine lv_aload_n hx hb dX9_seek_7 rfl (lv_at hl 0 rfl) ?_
  refine va_get (D := G.1) (ci := 8) (v := .int (nI mn91)) (C := RX9) (T := TX9) (N := 6) hx hb hts inlX9 hown hG.1 hP 7 (wl_at (by decide) hwt) rfl 4 (by decide) (hts (.fieldLink RX9 24 "SwornLists$Waits" "many" "I") w_824) (fun _ h9 => h9) rfl dX9_seek_8 ?_
  refine lv_if_ne (tgt := 18) hx hb dX9_seek_11 (by decide) (fun c_11 => ?_) (fun c_11 => ?_)
  · refine lv_iconst (v := (-1)) hx hb dX9_seek_18 (by decide) ?_
    refine va_put (D := G.1) (ci := 8) (v := .int (-1)) (ty := .int) (C := RX9) (T := TX9) (N := 6) hx hb hts inlX9 tyX9 tyX9_ok nmX9 hown hG.1 hP (wl_D hg f_1) hS 7 (wl_at (by decide) hwt) rfl 5 (by decide) (hts (.fieldLink RX9 32 "SwornLists$Waits" "leastSum" "I") w_825) (fun _ h9 => h9) rfl (by decide +kernel) rfl rfl (Nat.le_of_ble_eq_true rfl) dX9_seek_19 (fun H locs hP _ hS => ?_)
    obtain ⟨f_2, hP, e_2, o_2⟩ := b_put (by decide) hP
    have hwt : f_2 7 = eO 8 [.ref (g 8), .ref (g 9), .ref (g 10), .ref (g 11), .int (nI mn91), .int (-1)] := e_2
    replace hw8 := (o_2 8 (by decide)).trans hw8
    replace hw9 := (o_2 9 (by decide)).trans hw9
    replace hw10 := (o_2 10 (by decide)).trans hw10
    replace hw11 := (o_2 11 (by decide)).trans hw11
    replace hbk := (o_2 36 (by decide)).trans hbk
    replace htr := (o_2 45 (by decide)).trans htr
    replace hct := (o_2 46 (by decide)).trans hct
    refine lv_iconst (v := 0) hx hb dX9_seek_22 (by decide) ?_
    refine lv_istore_n (lv' := [(3, .int 0), (0, .ref (g 7)), (1, .ref (g 36)), (2, .int n)]) hx hb dX9_seek_23 rfl hl (by decide) rfl (fun ls hl => ?_)
    refine lv_aload_n hx hb dX9_seek_24 rfl (lv_at hl 1 rfl) ?_
    refine va_get (D := G.1) (ci := 8) (v := .ref (g 9)) (C := RX9) (T := TX9) (N := 6) hx hb hts inlX9 hown hG.1 hP 7 (wl_at (by decide) hwt) rfl 1 (by decide) (hts (.fieldLink RX9 15 "SwornLists$Waits" "waits" "[I") w_105) (fun _ h9 => h9) rfl dX9_seek_25 ?_
    refine lv_iconst (v := 0) hx hb dX9_seek_28 (by decide) ?_
    refine lv_iconst (v := (-1)) hx hb dX9_seek_29 (by decide) ?_
    refine va_iast hx hb hG.1 hP (wl_D hg f_2) hS 9 0 (wl_at (by decide) hw9) rfl (by unfold vp_in; decide) dX9_seek_30 (fun H locs hP _ hS => ?_)
    obtain ⟨f_3, hP, e_3, o_3⟩ := b_put (by decide) hP
    have hw9 : f_3 9 = eI G 6 (upd ww (Int32.toNatClampNeg 0) (-1)) := e_3
    replace hwt := (o_3 7 (by decide)).trans hwt
    replace hw8 := (o_3 8 (by decide)).trans hw8
    replace hw10 := (o_3 10 (by decide)).trans hw10
    replace hw11 := (o_3 11 (by decide)).trans hw11
    replace hbk := (o_3 36 (by decide)).trans hbk
    replace htr := (o_3 45 (by decide)).trans htr
    replace hct := (o_3 46 (by decide)).trans hct
    refine lv_iconst (v := 0) hx hb dX9_seek_31 (by decide) ?_
    refine lv_istore (lv' := [(4, .int 0), (3, .int 0), (0, .ref (g 7)), (1, .ref (g 36)), (2, .int n)]) hx hb dX9_seek_32 hl (by decide) rfl (fun ls hl => ?_)
    have key4 : ∀ (n9_4 : Nat) (i : Nat) (u : Int32) (l1 : Int32) (w1 : Nat → Int32) (b1 : Nat → Int32) (f_4 : Nat → va_E) (H : Heap) (locs : List Loc) (ls : Array Slot), (i ≤ 1000000) → 1000000 - i < n9_4 → f_4 7 = eO 8 [.ref (g 8), .ref (g 9), .ref (g 10), .ref (g 11), .int (nI mn91), .int l1] → f_4 8 = eI G 6 wt92 → f_4 9 = eI G 6 w1 → f_4 10 = eI G 6 b1 → f_4 11 = eI G 6 wf93 → f_4 36 = eO 0 [.ref (g 37), .ref (g 39), .ref (g 41), .ref (g 43), .ref (g 45), .ref (g 47), .ref (g 112), .int pay, .int fine] → f_4 45 = eO 5 [.int (nI 10), .int (nI 70), .ref (g 46), .int (nI nt)] → f_4 46 = eI G (10 * 70) ct → (∀ j, (j ≠ 7 ∧ j ≠ 9 ∧ j ≠ 10) → f_4 j = f_3 j) → va_P G.1 vwCl (wl g f_4) H → va_S (gA g) s.heap H locs → lv_has ls 6 [(0, .ref (g 7)), (1, .ref (g 36)), (2, .int n), (3, .int u), (4, .int (nI i))] → W p l e (headSpec (wsT yX9_seek cX9_seek 6 none) ({ frames := 3, cells := 0, slots := 0, locals := 72 })).room s m ([.ref (g 7), .ref (g 36), .int n] : List Value).toArray below meth c H locs 0 0 (MQ below (bQv G g (fun (f' : Nat → va_E) => ∃ mn9 : Nat, ∃ le9 : Int32, ∃ wt9 : Nat → Int32, ∃ ww9 : Nat → Int32, ∃ wb9 : Nat → Int32, ∃ wf9 : Nat → Int32, f' 7 = eO 8 [.ref (g 8), .ref (g 9), .ref (g 10), .ref (g 11), .int (nI mn9), .int le9] ∧ f' 8 = eI G 6 wt9 ∧ f' 9 = eI G 6 ww9 ∧ f' 10 = eI G 6 wb9 ∧ f' 11 = eI G 6 wf9 ∧ (mn9 ≤ 6) ∧ ∀ j, (j < 7 ∨ 11 < j) → f' j = f j)) ([.ref (g 7), .ref (g 36), .int n] : List Value).toArray s 0 0 (gA g)) (F0 m 34 ls []) := by
      intro n9_4
      induction n9_4 with
      | zero => intro i u l1 w1 b1 f_4 H locs ls hi hn9_4; exact absurd hn9_4 (Nat.not_lt_zero _)
      | succ n9_4 ih_4 =>
        intro i u l1 w1 b1 f_4 H locs ls hi hn9_4 hwt hw8 hw9 hw10 hw11 hbk htr hct o_4 hP hS hl
        refine lv_iload hx hb dX9_seek_34 (lv_at hl 4 rfl) ?_
        refine lv_ldc (v := 1000000) hx hb hown (hts (.constant RX9 35 (1000000)) w_826) dX9_seek_36 ?_
        refine lv_icmp_ge (tgt := 166) hx hb dX9_seek_38 (by decide) (fun c_38 => ?_) (fun c_38 => ?_)
        · exact W.vret hx hb hr (fun t ht hW => ⟨⟨f_4, rfl, (⟨mn91, l1, wt92, w1, b1, wf93, hwt, hw8, hw9, hw10, hw11, by omega, fun j hj => ((((o_4 j (by omega))).trans (o_3 j (by omega))).trans (o_2 j (by omega))).trans (o_1 j (by omega))⟩), by rw [ht]; exact hP⟩, hS.F ht⟩) hS.2.2 dX9_seek_166
        · have hi9 : i < 1000000 := Nat.not_le.mp (fun z => c_38 (nI_le z (by omega)))
          refine lv_iload_n hx hb dX9_seek_41 rfl (lv_at hl 3 rfl) ?_
          refine lv_if_lt (tgt := 166) hx hb dX9_seek_42 (by decide) (fun c_42 => ?_) (fun c_42 => ?_)
          · exact W.vret hx hb hr (fun t ht hW => ⟨⟨f_4, rfl, (⟨mn91, l1, wt92, w1, b1, wf93, hwt, hw8, hw9, hw10, hw11, by omega, fun j hj => ((((o_4 j (by omega))).trans (o_3 j (by omega))).trans (o_2 j (by omega))).trans (o_1 j (by omega))⟩), by rw [ht]; exact hP⟩, hS.F ht⟩) hS.2.2 dX9_seek_166
          · refine lv_iload_n hx hb dX9_seek_45 rfl (lv_at hl 3 rfl) ?_
            refine lv_aload_n hx hb dX9_seek_46 rfl (lv_at hl 0 rfl) ?_
            refine va_get (D := G.1) (ci := 8) (v := .int (nI mn91)) (C := RX9) (T := TX9) (N := 6) hx hb hts inlX9 hown hG.1 hP 7 (wl_at (by decide) hwt) rfl 4 (by decide) (hts (.fieldLink RX9 24 "SwornLists$Waits" "many" "I") w_824) (fun _ h9 => h9) rfl dX9_seek_47 ?_
            refine lv_icmp_ge (tgt := 166) hx hb dX9_seek_50 (by decide) (fun c_50 => ?_) (fun c_50 => ?_)
            · exact W.vret hx hb hr (fun t ht hW => ⟨⟨f_4, rfl, (⟨mn91, l1, wt92, w1, b1, wf93, hwt, hw8, hw9, hw10, hw11, by omega, fun j hj => ((((o_4 j (by omega))).trans (o_3 j (by omega))).trans (o_2 j (by omega))).trans (o_1 j (by omega))⟩), by rw [ht]; exact hP⟩, hS.F ht⟩) hS.2.2 dX9_seek_166
            · obtain ⟨a, ha, ea⟩ := inN_nat (by omega) (inN_t (n := mn91) (by omega) c_42 c_50)
              have e9 : u = nI a := ea
              subst e9
              refine lv_aload_n hx hb dX9_seek_53 rfl (lv_at hl 0 rfl) ?_
              refine va_get (D := G.1) (ci := 8) (v := .ref (g 9)) (C := RX9) (T := TX9) (N := 6) hx hb hts inlX9 hown hG.1 hP 7 (wl_at (by decide) hwt) rfl 1 (by decide) (hts (.fieldLink RX9 15 "SwornLists$Waits" "waits" "[I") w_105) (fun _ h9 => h9) rfl dX9_seek_54 ?_
              refine lv_iload_n hx hb dX9_seek_57 rfl (lv_at hl 3 rfl) ?_
              refine lv_dup2_11 hx hb dX9_seek_58 rfl rfl ?_
              refine va_iald hx hb hG.1 hP 9 0 (wl_at (by decide) hw9) rfl (vp_in_nI (by omega) (by decide)) dX9_seek_59 ?_
              refine lv_iconst (v := 1) hx hb dX9_seek_60 (by decide) ?_
              refine lv_iadd hx hb dX9_seek_61 ?_
              refine va_iast hx hb hG.1 hP (wl_D hg f_4) hS 9 0 (wl_at (by decide) hw9) rfl (vp_in_nI (by omega) (by decide)) dX9_seek_62 (fun H locs hP _ hS => ?_)
              obtain ⟨f_5, hP, e_5, o_5⟩ := b_put (by decide) hP
              have hw9 : f_5 9 = eI G 6 (upd w1 (Int32.toNatClampNeg (nI a)) ((w1 (Int32.toNatClampNeg (nI a))) + 1)) := e_5
              replace hwt := (o_5 7 (by decide)).trans hwt
              replace hw8 := (o_5 8 (by decide)).trans hw8
              replace hw10 := (o_5 10 (by decide)).trans hw10
              replace hw11 := (o_5 11 (by decide)).trans hw11
              replace hbk := (o_5 36 (by decide)).trans hbk
              replace htr := (o_5 45 (by decide)).trans htr
              replace hct := (o_5 46 (by decide)).trans hct
              refine lv_aload_n hx hb dX9_seek_63 rfl (lv_at hl 0 rfl) ?_
              refine lv_iload_n hx hb dX9_seek_64 rfl (lv_at hl 3 rfl) ?_
              refine rd_calli (va_runV (As := [.int (nI a)]) (rest := []) ⟨hx, hb, hml, hown, hts⟩ (v_sumTo l G g hg f_5 mn91 l1 (upd w1 (Int32.toNatClampNeg (nI a)) ((w1 (Int32.toNatClampNeg (nI a))) + 1)) a hwt hw9 (by first | assumption | omega | decide) (by first | assumption | omega | decide)) (my_cwV hts ok_X9_sumTo w_841 rfl rfl ⟨Nat.le_of_ble_eq_true rfl, Nat.le_of_ble_eq_true rfl⟩) ⟨bP.blind, va_recv hG.1 hP (ci := 8) (q0 := 7) rfl (wl_at (by decide) hwt), fun U hU hW => ⟨rfl, by rw [hU]; exact hP, kG.warm hW hG⟩⟩ rfl rfl hl.1 rfl (lv_room (Nat.le_of_ble_eq_true rfl)) dX9_seek_65 ⟨Nat.le_of_ble_eq_true rfl, Nat.le_of_ble_eq_true rfl⟩) (fun v5 _ => ?_)
              refine lv_istore (lv' := [(5, .int v5), (0, .ref (g 7)), (1, .ref (g 36)), (2, .int n), (3, .int (nI a)), (4, .int (nI i))]) hx hb dX9_seek_68 hl (by decide) rfl (fun ls hl => ?_)
              refine lv_aload_n hx hb dX9_seek_70 rfl (lv_at hl 1 rfl) ?_
              refine va_get (D := G.1) (ci := 8) (v := .ref (g 9)) (C := RX9) (T := TX9) (N := 6) hx hb hts inlX9 hown hG.1 hP 7 (wl_at (by decide) hwt) rfl 1 (by decide) (hts (.fieldLink RX9 15 "SwornLists$Waits" "waits" "[I") w_105) (fun _ h9 => h9) rfl dX9_seek_71 ?_
              refine lv_iload_n hx hb dX9_seek_74 rfl (lv_at hl 4 rfl) ?_
              refine va_iald hx hb hG.1 hP 9 0 (wl_at (by decide) hw9) rfl (vp_in_nI (by omega) (by decide)) dX9_seek_75 ?_
              refine lv_aload_n hx hb dX9_seek_76 rfl (lv_at hl 1 rfl) ?_
              refine lv_iload_n hx hb dX9_seek_77 rfl (lv_at hl 4 rfl) ?_
              refine rd_calli (va_runV (As := [.int (nI a)]) (rest := [.int ((upd w1 (Int32.toNatClampNeg (nI a)) ((w1 (Int32.toNatClampNeg (nI a))) + 1)) (Int32.toNatClampNeg (nI a)))]) ⟨hx, hb, hml, hown, hts⟩ (v_longestOf l G g hg f_5 mn91 l1 wf93 a hwt hw11 (by first | assumption | omega | decide) (by first | assumption | omega | decide)) (my_cwV hts ok_X9_longestOf w_845 rfl rfl ⟨Nat.le_of_ble_eq_true rfl, Nat.le_of_ble_eq_true rfl⟩) ⟨bP.blind, va_recv hG.1 hP (ci := 8) (q0 := 7) rfl (wl_at (by decide) hwt), fun U hU hW => ⟨rfl, by rw [hU]; exact hP, kG.warm hW hG⟩⟩ rfl rfl hl.1 rfl (lv_room (Nat.le_of_ble_eq_true rfl)) dX9_seek_78 ⟨Nat.le_of_ble_eq_true rfl, Nat.le_of_ble_eq_true rfl⟩) (fun v6 _ => ?_)
              refine lv_icmp_gt (tgt := 101) hx hb dX9_seek_81 (by decide) (fun c_81 => ?_) (fun c_81 => ?_)
              · refine lv_iinc (v := (nI a) + (-1)) (lv' := [(3, .int ((nI a) + (-1))), (5, .int v5), (0, .ref (g 7)), (1, .ref (g 36)), (2, .int n), (4, .int (nI i))]) hx hb dX9_seek_101 hl (k := 4) rfl (rfl) (by decide) rfl (fun ls hl => ?_)
                refine lv_goto (tgt := 160) hx hb dX9_seek_104 (by decide) ?_
                refine lv_iinc (v := nI (i + 1)) (lv' := [(4, .int (nI (i + 1))), (3, .int ((nI a) + (-1))), (5, .int v5), (0, .ref (g 7)), (1, .ref (g 36)), (2, .int n)]) hx hb dX9_seek_160 hl (k := 5) rfl (nI_1 i) (by decide) rfl (fun ls hl => ?_)
                refine lv_goto (tgt := 34) hx hb dX9_seek_163 (by decide) ?_
                exact ih_4 (i + 1) ((nI a) + (-1)) l1 (upd w1 (Int32.toNatClampNeg (nI a)) ((w1 (Int32.toNatClampNeg (nI a))) + 1)) b1 f_5 _ _ _ (hi9) (by omega) (hwt) (hw8) (hw9) (hw10) (hw11) (hbk) (htr) (hct) (fun j hj => ((o_5 j (by omega))).trans (o_4 j (by omega))) hP hS (lv_sub hl [3, 4, 5, 1, 0] rfl)
              · refine lv_aload_n hx hb dX9_seek_84 rfl (lv_at hl 1 rfl) ?_
                refine va_get (D := G.1) (ci := 8) (v := .int l1) (C := RX9) (T := TX9) (N := 6) hx hb hts inlX9 hown hG.1 hP 7 (wl_at (by decide) hwt) rfl 5 (by decide) (hts (.fieldLink RX9 32 "SwornLists$Waits" "leastSum" "I") w_825) (fun _ h9 => h9) rfl dX9_seek_85 ?_
                refine lv_iconst (v := (-1)) hx hb dX9_seek_88 (by decide) ?_
                refine lv_icmp_eq (tgt := 107) hx hb dX9_seek_89 (by decide) (fun c_89 => ?_) (fun c_89 => ?_)
                · refine lv_aload_n hx hb dX9_seek_107 rfl (lv_at hl 1 rfl) ?_
                  refine lv_aload_n hx hb dX9_seek_108 rfl (lv_at hl 2 rfl) ?_
                  refine lv_iload_n hx hb dX9_seek_109 rfl (lv_at hl 4 rfl) ?_
                  refine rd_calli (va_runV (As := [.ref (g 36), .int (nI a)]) (rest := []) ⟨hx, hb, hml, hown, hts⟩ (v_fits l G g hg f_5 mn91 l1 wt92 (upd w1 (Int32.toNatClampNeg (nI a)) ((w1 (Int32.toNatClampNeg (nI a))) + 1)) wf93 pay fine nt ct a hwt hw8 hw9 hw11 hbk htr hct (by first | assumption | omega | decide) (by first | assumption | omega | decide) (by first | assumption | omega | decide)) (my_cwV hts ok_X9_fits w_849 rfl rfl ⟨Nat.le_of_ble_eq_true rfl, Nat.le_of_ble_eq_true rfl⟩) ⟨bP.blind, va_recv hG.1 hP (ci := 8) (q0 := 7) rfl (wl_at (by decide) hwt), fun U hU hW => ⟨rfl, by rw [hU]; exact hP, kG.warm hW hG⟩⟩ rfl rfl hl.1 rfl (lv_room (Nat.le_of_ble_eq_true rfl)) dX9_seek_110 ⟨Nat.le_of_ble_eq_true rfl, Nat.le_of_ble_eq_true rfl⟩) (fun r hr9 => ?_)
                  obtain ⟨bz7, rfl⟩ := hr9
                  refine my_ifeq (tgt := 160) hx hb dX9_seek_113 (by decide) (fun c_113 => ?_) (fun c_113 => ?_)
                  · refine lv_iinc (v := nI (i + 1)) (lv' := [(4, .int (nI (i + 1))), (5, .int v5), (0, .ref (g 7)), (1, .ref (g 36)), (2, .int n), (3, .int (nI a))]) hx hb dX9_seek_160 hl (k := 5) rfl (nI_1 i) (by decide) rfl (fun ls hl => ?_)
                    refine lv_goto (tgt := 34) hx hb dX9_seek_163 (by decide) ?_
                    exact ih_4 (i + 1) (nI a) l1 (upd w1 (Int32.toNatClampNeg (nI a)) ((w1 (Int32.toNatClampNeg (nI a))) + 1)) b1 f_5 _ _ _ (hi9) (by omega) (hwt) (hw8) (hw9) (hw10) (hw11) (hbk) (htr) (hct) (fun j hj => ((o_5 j (by omega))).trans (o_4 j (by omega))) hP hS (lv_sub hl [2, 3, 4, 5, 0] rfl)
                  · refine lv_iload_n hx hb dX9_seek_116 rfl (lv_at hl 4 rfl) ?_
                    refine lv_aload_n hx hb dX9_seek_117 rfl (lv_at hl 1 rfl) ?_
                    refine va_get (D := G.1) (ci := 8) (v := .int (nI mn91)) (C := RX9) (T := TX9) (N := 6) hx hb hts inlX9 hown hG.1 hP 7 (wl_at (by decide) hwt) rfl 4 (by decide) (hts (.fieldLink RX9 24 "SwornLists$Waits" "many" "I") w_824) (fun _ h9 => h9) rfl dX9_seek_118 ?_
                    refine lv_iconst (v := 1) hx hb dX9_seek_121 (by decide) ?_
                    refine lv_isub hx hb dX9_seek_122 ?_
                    refine lv_icmp_ne (tgt := 150) hx hb dX9_seek_123 (by decide) (fun c_123 => ?_) (fun c_123 => ?_)
                    · have ha2 : a + 1 < mn91 := by
                        have h8 : ¬ nI a = nI mn91 - 1 := c_123
                        rw [show nI mn91 - 1 = nI (mn91 - 1) from pk_sub (b := 1) (by omega)] at h8
                        have h7 : ¬ a = mn91 - 1 := fun z => h8 (by rw [z])
                        omega
                      refine lv_iinc (v := nI (a + 1)) (lv' := [(3, .int (nI (a + 1))), (5, .int v5), (0, .ref (g 7)), (1, .ref (g 36)), (2, .int n), (4, .int (nI i))]) hx hb dX9_seek_150 hl (k := 4) rfl (nI_1 a) (by decide) rfl (fun ls hl => ?_)
                      refine lv_aload_n hx hb dX9_seek_153 rfl (lv_at hl 2 rfl) ?_
                      refine va_get (D := G.1) (ci := 8) (v := .ref (g 9)) (C := RX9) (T := TX9) (N := 6) hx hb hts inlX9 hown hG.1 hP 7 (wl_at (by decide) hwt) rfl 1 (by decide) (hts (.fieldLink RX9 15 "SwornLists$Waits" "waits" "[I") w_105) (fun _ h9 => h9) rfl dX9_seek_154 ?_
                      refine lv_iload_n hx hb dX9_seek_157 rfl (lv_at hl 0 rfl) ?_
                      refine lv_iconst (v := (-1)) hx hb dX9_seek_158 (by decide) ?_
                      refine va_iast hx hb hG.1 hP (wl_D hg f_5) hS 9 0 (wl_at (by decide) hw9) rfl (vp_in_nI (by omega) (by decide)) dX9_seek_159 (fun H locs hP _ hS => ?_)
                      obtain ⟨f_7, hP, e_7, o_7⟩ := b_put (by decide) hP
                      have hw9 : f_7 9 = eI G 6 (upd (upd w1 (Int32.toNatClampNeg (nI a)) ((w1 (Int32.toNatClampNeg (nI a))) + 1)) (Int32.toNatClampNeg (nI (a + 1))) (-1)) := e_7
                      replace hwt := (o_7 7 (by decide)).trans hwt
                      replace hw8 := (o_7 8 (by decide)).trans hw8
                      replace hw10 := (o_7 10 (by decide)).trans hw10
                      replace hw11 := (o_7 11 (by decide)).trans hw11
                      replace hbk := (o_7 36 (by decide)).trans hbk
                      replace htr := (o_7 45 (by decide)).trans htr
                      replace hct := (o_7 46 (by decide)).trans hct
                      refine lv_iinc (v := nI (i + 1)) (lv' := [(4, .int (nI (i + 1))), (3, .int (nI (a + 1))), (5, .int v5), (0, .ref (g 7)), (1, .ref (g 36)), (2, .int n)]) hx hb dX9_seek_160 hl (k := 5) rfl (nI_1 i) (by decide) rfl (fun ls hl => ?_)
                      refine lv_goto (tgt := 34) hx hb dX9_seek_163 (by decide) ?_
                      exact ih_4 (i + 1) (nI (a + 1)) l1 (upd (upd w1 (Int32.toNatClampNeg (nI a)) ((w1 (Int32.toNatClampNeg (nI a))) + 1)) (Int32.toNatClampNeg (nI (a + 1))) (-1)) b1 f_7 _ _ _ (hi9) (by omega) (hwt) (hw8) (hw9) (hw10) (hw11) (hbk) (htr) (hct) (fun j hj => (((o_7 j (by omega))).trans (o_5 j (by omega))).trans (o_4 j (by omega))) hP hS (lv_sub hl [3, 4, 5, 1, 0] rfl)
                    · refine lv_aload_n hx hb dX9_seek_126 rfl (lv_at hl 1 rfl) ?_
                      refine lv_iload hx hb dX9_seek_127 (lv_at hl 0 rfl) ?_
                      refine va_put (D := G.1) (ci := 8) (v := .int v5) (ty := .int) (C := RX9) (T := TX9) (N := 6) hx hb hts inlX9 tyX9 tyX9_ok nmX9 hown hG.1 hP (wl_D hg f_5) hS 7 (wl_at (by decide) hwt) rfl 5 (by decide) (hts (.fieldLink RX9 32 "SwornLists$Waits" "leastSum" "I") w_825) (fun _ h9 => h9) rfl (by decide +kernel) rfl rfl (Nat.le_of_ble_eq_true rfl) dX9_seek_129 (fun H locs hP _ hS => ?_)
                      obtain ⟨f_8, hP, e_8, o_8⟩ := b_put (by decide) hP
                      have hwt : f_8 7 = eO 8 [.ref (g 8), .ref (g 9), .ref (g 10), .ref (g 11), .int (nI mn91), .int v5] := e_8
                      replace hw8 := (o_8 8 (by decide)).trans hw8
                      replace hw9 := (o_8 9 (by decide)).trans hw9
                      replace hw10 := (o_8 10 (by decide)).trans hw10
                      replace hw11 := (o_8 11 (by decide)).trans hw11
                      replace hbk := (o_8 36 (by decide)).trans hbk
                      replace htr := (o_8 45 (by decide)).trans htr
                      replace hct := (o_8 46 (by decide)).trans hct
                      refine lv_aload_n hx hb dX9_seek_132 rfl (lv_at hl 1 rfl) ?_
                      refine va_get (D := G.1) (ci := 8) (v := .ref (g 9)) (C := RX9) (T := TX9) (N := 6) hx hb hts inlX9 hown hG.1 hP 7 (wl_at (by decide) hwt) rfl 1 (by decide) (hts (.fieldLink RX9 15 "SwornLists$Waits" "waits" "[I") w_105) (fun _ h9 => h9) rfl dX9_seek_133 ?_
                      refine lv_iconst (v := 0) hx hb dX9_seek_136 (by decide) ?_
                      refine lv_aload_n hx hb dX9_seek_137 rfl (lv_at hl 1 rfl) ?_
                      refine va_get (D := G.1) (ci := 8) (v := .ref (g 10)) (C := RX9) (T := TX9) (N := 6) hx hb hts inlX9 hown hG.1 hP 7 (wl_at (by decide) hwt) rfl 2 (by decide) (hts (.fieldLink RX9 18 "SwornLists$Waits" "best" "[I") w_106) (fun _ h9 => h9) rfl dX9_seek_138 ?_
                      refine lv_iconst (v := 0) hx hb dX9_seek_141 (by decide) ?_
                      refine lv_bipush (v := 6) hx hb dX9_seek_142 (by decide) ?_
                      refine va_copyi hx hb (by rw [hml]; exact hl.1.symm) hown (hts (.methodLink RX9 47 arraycopyName) w_827) (hts (.native arraycopyName) w_599) (hts (.static arraycopyName) w_600) (hts (.initialized "java/lang/System") w_601) hG.1 hP (wl_D hg f_8) hS 9 10 0 0 (wl_at (by decide) hw9) (wl_at (by decide) hw10) rfl rfl rfl (by decide) (by decide) (by decide) (by decide) (by decide) (fun _ _ => rfl) (Nat.le_of_ble_eq_true rfl) (Nat.le_of_ble_eq_true rfl) dX9_seek_144 (fun H locs hP _ hS => ?_)
                      obtain ⟨f_9, hP, e_9, o_9⟩ := b_put (by decide) hP
                      have hw10 : f_9 10 = eI G 6 (va_cpy (upd w1 (Int32.toNatClampNeg (nI a)) ((w1 (Int32.toNatClampNeg (nI a))) + 1)) b1 (Int32.toNatClampNeg 0) (Int32.toNatClampNeg 0) (Int32.toNatClampNeg 6)) := e_9
                      replace hwt := (o_9 7 (by decide)).trans hwt
                      replace hw8 := (o_9 8 (by decide)).trans hw8
                      replace hw9 := (o_9 9 (by decide)).trans hw9
                      replace hw11 := (o_9 11 (by decide)).trans hw11
                      replace hbk := (o_9 36 (by decide)).trans hbk
                      replace htr := (o_9 45 (by decide)).trans htr
                      replace hct := (o_9 46 (by decide)).trans hct
                      refine lv_goto (tgt := 160) hx hb dX9_seek_147 (by decide) ?_
                      refine lv_iinc (v := nI (i + 1)) (lv' := [(4, .int (nI (i + 1))), (5, .int v5), (0, .ref (g 7)), (1, .ref (g 36)), (2, .int n), (3, .int (nI a))]) hx hb dX9_seek_160 hl (k := 5) rfl (nI_1 i) (by decide) rfl (fun ls hl => ?_)
                      refine lv_goto (tgt := 34) hx hb dX9_seek_163 (by decide) ?_
                      exact ih_4 (i + 1) (nI a) v5 (upd w1 (Int32.toNatClampNeg (nI a)) ((w1 (Int32.toNatClampNeg (nI a))) + 1)) (va_cpy (upd w1 (Int32.toNatClampNeg (nI a)) ((w1 (Int32.toNatClampNeg (nI a))) + 1)) b1 (Int32.toNatClampNeg 0) (Int32.toNatClampNeg 0) (Int32.toNatClampNeg 6)) f_9 _ _ _ (hi9) (by omega) (hwt) (hw8) (hw9) (hw10) (hw11) (hbk) (htr) (hct) (fun j hj => ((((o_9 j (by omega))).trans (o_8 j (by omega))).trans (o_5 j (by omega))).trans (o_4 j (by omega))) hP hS (lv_sub hl [2, 3, 4, 5, 0] rfl)
                · refine lv_iload hx hb dX9_seek_92 (lv_at hl 0 rfl) ?_
                  refine lv_aload_n hx hb dX9_seek_94 rfl (lv_at hl 1 rfl) ?_
                  refine va_get (D := G.1) (ci := 8) (v := .int l1) (C := RX9) (T := TX9) (N := 6) hx hb hts inlX9 hown hG.1 hP 7 (wl_at (by decide) hwt) rfl 5 (by decide) (hts (.fieldLink RX9 32 "SwornLists$Waits" "leastSum" "I") w_825) (fun _ h9 => h9) rfl dX9_seek_95 ?_
                  refine lv_icmp_lt (tgt := 107) hx hb dX9_seek_98 (by decide) (fun c_98 => ?_) (fun c_98 => ?_)
                  · refine lv_aload_n hx hb dX9_seek_107 rfl (lv_at hl 1 rfl) ?_
                    refine lv_aload_n hx hb dX9_seek_108 rfl (lv_at hl 2 rfl) ?_
                    refine lv_iload_n hx hb dX9_seek_109 rfl (lv_at hl 4 rfl) ?_
                    refine rd_calli (va_runV (As := [.ref (g 36), .int (nI a)]) (rest := []) ⟨hx, hb, hml, hown, hts⟩ (v_fits l G g hg f_5 mn91 l1 wt92 (upd w1 (Int32.toNatClampNeg (nI a)) ((w1 (Int32.toNatClampNeg (nI a))) + 1)) wf93 pay fine nt ct a hwt hw8 hw9 hw11 hbk htr hct (by first | assumption | omega | decide) (by first | assumption | omega | decide) (by first | assumption | omega | decide)) (my_cwV hts ok_X9_fits w_849 rfl rfl ⟨Nat.le_of_ble_eq_true rfl, Nat.le_of_ble_eq_true rfl⟩) ⟨bP.blind, va_recv hG.1 hP (ci := 8) (q0 := 7) rfl (wl_at (by decide) hwt), fun U hU hW => ⟨rfl, by rw [hU]; exact hP, kG.warm hW hG⟩⟩ rfl rfl hl.1 rfl (lv_room (Nat.le_of_ble_eq_true rfl)) dX9_seek_110 ⟨Nat.le_of_ble_eq_true rfl, Nat.le_of_ble_eq_true rfl⟩) (fun r hr9 => ?_)
                    obtain ⟨bz8, rfl⟩ := hr9
                    refine my_ifeq (tgt := 160) hx hb dX9_seek_113 (by decide) (fun c_113 => ?_) (fun c_113 => ?_)
                    · refine lv_iinc (v := nI (i + 1)) (lv' := [(4, .int (nI (i + 1))), (5, .int v5), (0, .ref (g 7)), (1, .ref (g 36)), (2, .int n), (3, .int (nI a))]) hx hb dX9_seek_160 hl (k := 5) rfl (nI_1 i) (by decide) rfl (fun ls hl => ?_)
                      refine lv_goto (tgt := 34) hx hb dX9_seek_163 (by decide) ?_
                      exact ih_4 (i + 1) (nI a) l1 (upd w1 (Int32.toNatClampNeg (nI a)) ((w1 (Int32.toNatClampNeg (nI a))) + 1)) b1 f_5 _ _ _ (hi9) (by omega) (hwt) (hw8) (hw9) (hw10) (hw11) (hbk) (htr) (hct) (fun j hj => ((o_5 j (by omega))).trans (o_4 j (by omega))) hP hS (lv_sub hl [2, 3, 4, 5, 0] rfl)
                    · refine lv_iload_n hx hb dX9_seek_116 rfl (lv_at hl 4 rfl) ?_
                      refine lv_aload_n hx hb dX9_seek_117 rfl (lv_at hl 1 rfl) ?_
                      refine va_get (D := G.1) (ci := 8) (v := .int (nI mn91)) (C := RX9) (T := TX9) (N := 6) hx hb hts inlX9 hown hG.1 hP 7 (wl_at (by decide) hwt) rfl 4 (by decide) (hts (.fieldLink RX9 24 "SwornLists$Waits" "many" "I") w_824) (fun _ h9 => h9) rfl dX9_seek_118 ?_
                      refine lv_iconst (v := 1) hx hb dX9_seek_121 (by decide) ?_
                      refine lv_isub hx hb dX9_seek_122 ?_
                      refine lv_icmp_ne (tgt := 150) hx hb dX9_seek_123 (by decide) (fun c_123 => ?_) (fun c_123 => ?_)
                      · have ha2 : a + 1 < mn91 := by
                          have h8 : ¬ nI a = nI mn91 - 1 := c_123
                          rw [show nI mn91 - 1 = nI (mn91 - 1) from pk_sub (b := 1) (by omega)] at h8
                          have h7 : ¬ a = mn91 - 1 := fun z => h8 (by rw [z])
                          omega
                        refine lv_iinc (v := nI (a + 1)) (lv' := [(3, .int (nI (a + 1))), (5, .int v5), (0, .ref (g 7)), (1, .ref (g 36)), (2, .int n), (4, .int (nI i))]) hx hb dX9_seek_150 hl (k := 4) rfl (nI_1 a) (by decide) rfl (fun ls hl => ?_)
                        refine lv_aload_n hx hb dX9_seek_153 rfl (lv_at hl 2 rfl) ?_
                        refine va_get (D := G.1) (ci := 8) (v := .ref (g 9)) (C := RX9) (T := TX9) (N := 6) hx hb hts inlX9 hown hG.1 hP 7 (wl_at (by decide) hwt) rfl 1 (by decide) (hts (.fieldLink RX9 15 "SwornLists$Waits" "waits" "[I") w_105) (fun _ h9 => h9) rfl dX9_seek_154 ?_
                        refine lv_iload_n hx hb dX9_seek_157 rfl (lv_at hl 0 rfl) ?_
                        refine lv_iconst (v := (-1)) hx hb dX9_seek_158 (by decide) ?_
                        refine va_iast hx hb hG.1 hP (wl_D hg f_5) hS 9 0 (wl_at (by decide) hw9) rfl (vp_in_nI (by omega) (by decide)) dX9_seek_159 (fun H locs hP _ hS => ?_)
                        obtain ⟨f_11, hP, e_11, o_11⟩ := b_put (by decide) hP
                        have hw9 : f_11 9 = eI G 6 (upd (upd w1 (Int32.toNatClampNeg (nI a)) ((w1 (Int32.toNatClampNeg (nI a))) + 1)) (Int32.toNatClampNeg (nI (a + 1))) (-1)) := e_11
                        replace hwt := (o_11 7 (by decide)).trans hwt
                        replace hw8 := (o_11 8 (by decide)).trans hw8
                        replace hw10 := (o_11 10 (by decide)).trans hw10
                        replace hw11 := (o_11 11 (by decide)).trans hw11
                        replace hbk := (o_11 36 (by decide)).trans hbk
                        replace htr := (o_11 45 (by decide)).trans htr
                        replace hct := (o_11 46 (by decide)).trans hct
                        refine lv_iinc (v := nI (i + 1)) (lv' := [(4, .int (nI (i + 1))), (3, .int (nI (a + 1))), (5, .int v5), (0, .ref (g 7)), (1, .ref (g 36)), (2, .int n)]) hx hb dX9_seek_160 hl (k := 5) rfl (nI_1 i) (by decide) rfl (fun ls hl => ?_)
                        refine lv_goto (tgt := 34) hx hb dX9_seek_163 (by decide) ?_
                        exact ih_4 (i + 1) (nI (a + 1)) l1 (upd (upd w1 (Int32.toNatClampNeg (nI a)) ((w1 (Int32.toNatClampNeg (nI a))) + 1)) (Int32.toNatClampNeg (nI (a + 1))) (-1)) b1 f_11 _ _ _ (hi9) (by omega) (hwt) (hw8) (hw9) (hw10) (hw11) (hbk) (htr) (hct) (fun j hj => (((o_11 j (by omega))).trans (o_5 j (by omega))).trans (o_4 j (by omega))) hP hS (lv_sub hl [3, 4, 5, 1, 0] rfl)
                      · refine lv_aload_n hx hb dX9_seek_126 rfl (lv_at hl 1 rfl) ?_
                        refine lv_iload hx hb dX9_seek_127 (lv_at hl 0 rfl) ?_
                        refine va_put (D := G.1) (ci := 8) (v := .int v5) (ty := .int) (C := RX9) (T := TX9) (N := 6) hx hb hts inlX9 tyX9 tyX9_ok nmX9 hown hG.1 hP (wl_D hg f_5) hS 7 (wl_at (by decide) hwt) rfl 5 (by decide) (hts (.fieldLink RX9 32 "SwornLists$Waits" "leastSum" "I") w_825) (fun _ h9 => h9) rfl (by decide +kernel) rfl rfl (Nat.le_of_ble_eq_true rfl) dX9_seek_129 (fun H locs hP _ hS => ?_)
                        obtain ⟨f_12, hP, e_12, o_12⟩ := b_put (by decide) hP
                        have hwt : f_12 7 = eO 8 [.ref (g 8), .ref (g 9), .ref (g 10), .ref (g 11), .int (nI mn91), .int v5] := e_12
                        replace hw8 := (o_12 8 (by decide)).trans hw8
                        replace hw9 := (o_12 9 (by decide)).trans hw9
                        replace hw10 := (o_12 10 (by decide)).trans hw10
                        replace hw11 := (o_12 11 (by decide)).trans hw11
                        replace hbk := (o_12 36 (by decide)).trans hbk
                        replace htr := (o_12 45 (by decide)).trans htr
                        replace hct := (o_12 46 (by decide)).trans hct
                        refine lv_aload_n hx hb dX9_seek_132 rfl (lv_at hl 1 rfl) ?_
                        refine va_get (D := G.1) (ci := 8) (v := .ref (g 9)) (C := RX9) (T := TX9) (N := 6) hx hb hts inlX9 hown hG.1 hP 7 (wl_at (by decide) hwt) rfl 1 (by decide) (hts (.fieldLink RX9 15 "SwornLists$Waits" "waits" "[I") w_105) (fun _ h9 => h9) rfl dX9_seek_133 ?_
                        refine lv_iconst (v := 0) hx hb dX9_seek_136 (by decide) ?_
                        refine lv_aload_n hx hb dX9_seek_137 rfl (lv_at hl 1 rfl) ?_
                        refine va_get (D := G.1) (ci := 8) (v := .ref (g 10)) (C := RX9) (T := TX9) (N := 6) hx hb hts inlX9 hown hG.1 hP 7 (wl_at (by decide) hwt) rfl 2 (by decide) (hts (.fieldLink RX9 18 "SwornLists$Waits" "best" "[I") w_106) (fun _ h9 => h9) rfl dX9_seek_138 ?_
                        refine lv_iconst (v := 0) hx hb dX9_seek_141 (by decide) ?_
                        refine lv_bipush (v := 6) hx hb dX9_seek_142 (by decide) ?_
                        refine va_copyi hx hb (by rw [hml]; exact hl.1.symm) hown (hts (.methodLink RX9 47 arraycopyName) w_827) (hts (.native arraycopyName) w_599) (hts (.static arraycopyName) w_600) (hts (.initialized "java/lang/System") w_601) hG.1 hP (wl_D hg f_12) hS 9 10 0 0 (wl_at (by decide) hw9) (wl_at (by decide) hw10) rfl rfl rfl (by decide) (by decide) (by decide) (by decide) (by decide) (fun _ _ => rfl) (Nat.le_of_ble_eq_true rfl) (Nat.le_of_ble_eq_true rfl) dX9_seek_144 (fun H locs hP _ hS => ?_)
                        obtain ⟨f_13, hP, e_13, o_13⟩ := b_put (by decide) hP
                        have hw10 : f_13 10 = eI G 6 (va_cpy (upd w1 (Int32.toNatClampNeg (nI a)) ((w1 (Int32.toNatClampNeg (nI a))) + 1)) b1 (Int32.toNatClampNeg 0) (Int32.toNatClampNeg 0) (Int32.toNatClampNeg 6)) := e_13
                        replace hwt := (o_13 7 (by decide)).trans hwt
                        replace hw8 := (o_13 8 (by decide)).trans hw8
                        replace hw9 := (o_13 9 (by decide)).trans hw9
                        replace hw11 := (o_13 11 (by decide)).trans hw11
                        replace hbk := (o_13 36 (by decide)).trans hbk
                        replace htr := (o_13 45 (by decide)).trans htr
                        replace hct := (o_13 46 (by decide)).trans hct
                        refine lv_goto (tgt := 160) hx hb dX9_seek_147 (by decide) ?_
                        refine lv_iinc (v := nI (i + 1)) (lv' := [(4, .int (nI (i + 1))), (5, .int v5), (0, .ref (g 7)), (1, .ref (g 36)), (2, .int n), (3, .int (nI a))]) hx hb dX9_seek_160 hl (k := 5) rfl (nI_1 i) (by decide) rfl (fun ls hl => ?_)
                        refine lv_goto (tgt := 34) hx hb dX9_seek_163 (by decide) ?_
                        exact ih_4 (i + 1) (nI a) v5 (upd w1 (Int32.toNatClampNeg (nI a)) ((w1 (Int32.toNatClampNeg (nI a))) + 1)) (va_cpy (upd w1 (Int32.toNatClampNeg (nI a)) ((w1 (Int32.toNatClampNeg (nI a))) + 1)) b1 (Int32.toNatClampNeg 0) (Int32.toNatClampNeg 0) (Int32.toNatClampNeg 6)) f_13 _ _ _ (hi9) (by omega) (hwt) (hw8) (hw9) (hw10) (hw11) (hbk) (htr) (hct) (fun j hj => ((((o_13 j (by omega))).trans (o_12 j (by omega))).trans (o_5 j (by omega))).trans (o_4 j (by omega))) hP hS (lv_sub hl [2, 3, 4, 5, 0] rfl)
                  · refine lv_iinc (v := (nI a) + (-1)) (lv' := [(3, .int ((nI a) + (-1))), (5, .int v5), (0, .ref (g 7)), (1, .ref (g 36)), (2, .int n), (4, .int (nI i))]) hx hb dX9_seek_101 hl (k := 4) rfl (rfl) (by decide) rfl (fun ls hl => ?_)
                    refine lv_goto (tgt := 160) hx hb dX9_seek_104 (by decide) ?_
                    refine lv_iinc (v := nI (i + 1)) (lv' := [(4, .int (nI (i + 1))), (3, .int ((nI a) + (-1))), (5, .int v5), (0, .ref (g 7)), (1, .ref (g 36)), (2, .int n)]) hx hb dX9_seek_160 hl (k := 5) rfl (nI_1 i) (by decide) rfl (fun ls hl => ?_)
                    refine lv_goto (tgt := 34) hx hb dX9_seek_163 (by decide) ?_
                    exact ih_4 (i + 1) ((nI a) + (-1)) l1 (upd w1 (Int32.toNatClampNeg (nI a)) ((w1 (Int32.toNatClampNeg (nI a))) + 1)) b1 f_5 _ _ _ (hi9) (by omega) (hwt) (hw8) (hw9) (hw10) (hw11) (hbk) (htr) (hct) (fun j hj => ((o_5 j (by omega))).trans (o_4 j (by omega))) hP hS (lv_sub hl [3, 4, 5, 1, 0] rfl)
    exact key4 (1000000 + 1) 0 0 (-1) (upd ww (Int32.toNatClampNeg 0) (-1)) wb f_3 _ _ _ (Nat.zero_le _) (by omega) (hwt) (hw8) (hw9) (hw10) (hw11) (hbk) (htr) (hct) (fun j _ => rfl) hP hS (lv_sub hl [2, 3, 4, 1, 0] rfl)
  · refine lv_iconst (v := 0) hx hb dX9_seek_14 (by decide) ?_
    refine lv_goto (tgt := 19) hx hb dX9_seek_15 (by decide) ?_
    refine va_put (D := G.1) (ci := 8) (v := .int 0) (ty := .int) (C := RX9) (T := TX9) (N := 6) hx hb hts inlX9 tyX9 tyX9_ok nmX9 hown hG.1 hP (wl_D hg f_1) hS 7 (wl_at (by decide) hwt) rfl 5 (by decide) (hts (.fieldLink RX9 32 "SwornLists$Waits" "leastSum" "I") w_825) (fun _ h9 => h9) rfl (by decide +kernel) rfl rfl (Nat.le_of_ble_eq_true rfl) dX9_seek_19 (fun H locs hP _ hS => ?_)
    obtain ⟨f_14, hP, e_14, o_14⟩ := b_put (by decide) hP
    have hwt : f_14 7 = eO 8 [.ref (g 8), .ref (g 9), .ref (g 10), .ref (g 11), .int (nI mn91), .int 0] := e_14
    replace hw8 := (o_14 8 (by decide)).trans hw8
    replace hw9 := (o_14 9 (by decide)).trans hw9
    replace hw10 := (o_14 10 (by decide)).trans hw10
    replace hw11 := (o_14 11 (by decide)).trans hw11
    replace hbk := (o_14 36 (by decide)).trans hbk
    replace htr := (o_14 45 (by decide)).trans htr
    replace hct := (o_14 46 (by decide)).trans hct
    refine lv_iconst (v := 0) hx hb dX9_seek_22 (by decide) ?_
    refine lv_istore_n (lv' := [(3, .int 0), (0, .ref (g 7)), (1, .ref (g 36)), (2, .int n)]) hx hb dX9_seek_23 rfl hl (by decide) rfl (fun ls hl => ?_)
    refine lv_aload_n hx hb dX9_seek_24 rfl (lv_at hl 1 rfl) ?_
    refine va_get (D := G.1) (ci := 8) (v := .ref (g 9)) (C := RX9) (T := TX9) (N := 6) hx hb hts inlX9 hown hG.1 hP 7 (wl_at (by decide) hwt) rfl 1 (by decide) (hts (.fieldLink RX9 15 "SwornLists$Waits" "waits" "[I") w_105) (fun _ h9 => h9) rfl dX9_seek_25 ?_
    refine lv_iconst (v := 0) hx hb dX9_seek_28 (by decide) ?_
    refine lv_iconst (v := (-1)) hx hb dX9_seek_29 (by decide) ?_
    refine va_iast hx hb hG.1 hP (wl_D hg f_14) hS 9 0 (wl_at (by decide) hw9) rfl (by unfold vp_in; decide) dX9_seek_30 (fun H locs hP _ hS => ?_)
    obtain ⟨f_15, hP, e_15, o_15⟩ := b_put (by decide) hP
    have hw9 : f_15 9 = eI G 6 (upd ww (Int32.toNatClampNeg 0) (-1)) := e_15
    replace hwt := (o_15 7 (by decide)).trans hwt
    replace hw8 := (o_15 8 (by decide)).trans hw8
    replace hw10 := (o_15 10 (by decide)).trans hw10
    replace hw11 := (o_15 11 (by decide)).trans hw11
    replace hbk := (o_15 36 (by decide)).trans hbk
    replace htr := (o_15 45 (by decide)).trans htr
    replace hct := (o_15 46 (by decide)).trans hct
    refine lv_iconst (v := 0) hx hb dX9_seek_31 (by decide) ?_
    refine lv_istore (lv' := [(4, .int 0), (3, .int 0), (0, .ref (g 7)), (1, .ref (g 36)), (2, .int n)]) hx hb dX9_seek_32 hl (by decide) rfl (fun ls hl => ?_)
    have key9 : ∀ (n9_9 : Nat) (i : Nat) (u : Int32) (l1 : Int32) (w1 : Nat → Int32) (b1 : Nat → Int32) (f_16 : Nat → va_E) (H : Heap) (locs : List Loc) (ls : Array Slot), (i ≤ 1000000) → 1000000 - i < n9_9 → f_16 7 = eO 8 [.ref (g 8), .ref (g 9), .ref (g 10), .ref (g 11), .int (nI mn91), .int l1] → f_16 8 = eI G 6 wt92 → f_16 9 = eI G 6 w1 → f_16 10 = eI G 6 b1 → f_16 11 = eI G 6 wf93 → f_16 36 = eO 0 [.ref (g 37), .ref (g 39), .ref (g 41), .ref (g 43), .ref (g 45), .ref (g 47), .ref (g 112), .int pay, .int fine] → f_16 45 = eO 5 [.int (nI 10), .int (nI 70), .ref (g 46), .int (nI nt)] → f_16 46 = eI G (10 * 70) ct → (∀ j, (j ≠ 7 ∧ j ≠ 9 ∧ j ≠ 10) → f_16 j = f_15 j) → va_P G.1 vwCl (wl g f_16) H → va_S (gA g) s.heap H locs → lv_has ls 6 [(0, .ref (g 7)), (1, .ref (g 36)), (2, .int n), (3, .int u), (4, .int (nI i))] → W p l e (headSpec (wsT yX9_seek cX9_seek 6 none) ({ frames := 3, cells := 0, slots := 0, locals := 72 })).room s m ([.ref (g 7), .ref (g 36), .int n] : List Value).toArray below meth c H locs 0 0 (MQ below (bQv G g (fun (f' : Nat → va_E) => ∃ mn9 : Nat, ∃ le9 : Int32, ∃ wt9 : Nat → Int32, ∃ ww9 : Nat → Int32, ∃ wb9 : Nat → Int32, ∃ wf9 : Nat → Int32, f' 7 = eO 8 [.ref (g 8), .ref (g 9), .ref (g 10), .ref (g 11), .int (nI mn9), .int le9] ∧ f' 8 = eI G 6 wt9 ∧ f' 9 = eI G 6 ww9 ∧ f' 10 = eI G 6 wb9 ∧ f' 11 = eI G 6 wf9 ∧ (mn9 ≤ 6) ∧ ∀ j, (j < 7 ∨ 11 < j) → f' j = f j)) ([.ref (g 7), .ref (g 36), .int n] : List Value).toArray s 0 0 (gA g)) (F0 m 34 ls []) := by
      intro n9_9
      induction n9_9 with
      | zero => intro i u l1 w1 b1 f_16 H locs ls hi hn9_9; exact absurd hn9_9 (Nat.not_lt_zero _)
      | succ n9_9 ih_9 =>
        intro i u l1 w1 b1 f_16 H locs ls hi hn9_9 hwt hw8 hw9 hw10 hw11 hbk htr hct o_16 hP hS hl
        refine lv_iload hx hb dX9_seek_34 (lv_at hl 4 rfl) ?_
        refine lv_ldc (v := 1000000) hx hb hown (hts (.constant RX9 35 (1000000)) w_826) dX9_seek_36 ?_
        refine lv_icmp_ge (tgt := 166) hx hb dX9_seek_38 (by decide) (fun c_38 => ?_) (fun c_38 => ?_)
        · exact W.vret hx hb hr (fun t ht hW => ⟨⟨f_16, rfl, (⟨mn91, l1, wt92, w1, b1, wf93, hwt, hw8, hw9, hw10, hw11, by omega, fun j hj => ((((o_16 j (by omega))).trans (o_15 j (by omega))).trans (o_14 j (by omega))).trans (o_1 j (by omega))⟩), by rw [ht]; exact hP⟩, hS.F ht⟩) hS.2.2 dX9_seek_166
        · have hi9 : i < 1000000 := Nat.not_le.mp (fun z => c_38 (nI_le z (by omega)))
          refine lv_iload_n hx hb dX9_seek_41 rfl (lv_at hl 3 rfl) ?_
          refine lv_if_lt (tgt := 166) hx hb dX9_seek_42 (by decide) (fun c_42 => ?_) (fun c_42 => ?_)
          · exact W.vret hx hb hr (fun t ht hW => ⟨⟨f_16, rfl, (⟨mn91, l1, wt92, w1, b1, wf93, hwt, hw8, hw9, hw10, hw11, by omega, fun j hj => ((((o_16 j (by omega))).trans (o_15 j (by omega))).trans (o_14 j (by omega))).trans (o_1 j (by omega))⟩), by rw [ht]; exact hP⟩, hS.F ht⟩) hS.2.2 dX9_seek_166
          · refine lv_iload_n hx hb dX9_seek_45 rfl (lv_at hl 3 rfl) ?_
            refine lv_aload_n hx hb dX9_seek_46 rfl (lv_at hl 0 rfl) ?_
            refine va_get (D := G.1) (ci := 8) (v := .int (nI mn91)) (C := RX9) (T := TX9) (N := 6) hx hb hts inlX9 hown hG.1 hP 7 (wl_at (by decide) hwt) rfl 4 (by decide) (hts (.fieldLink RX9 24 "SwornLists$Waits" "many" "I") w_824) (fun _ h9 => h9) rfl dX9_seek_47 ?_
            refine lv_icmp_ge (tgt := 166) hx hb dX9_seek_50 (by decide) (fun c_50 => ?_) (fun c_50 => ?_)
            · exact W.vret hx hb hr (fun t ht hW => ⟨⟨f_16, rfl, (⟨mn91, l1, wt92, w1, b1, wf93, hwt, hw8, hw9, hw10, hw11, by omega, fun j hj => ((((o_16 j (by omega))).trans (o_15 j (by omega))).trans (o_14 j (by omega))).trans (o_1 j (by omega))⟩), by rw [ht]; exact hP⟩, hS.F ht⟩) hS.2.2 dX9_seek_166
            · obtain ⟨a, ha, ea⟩ := inN_nat (by omega) (inN_t (n := mn91) (by omega) c_42 c_50)
              have e9 : u = nI a := ea
              subst e9
              refine lv_aload_n hx hb dX9_seek_53 rfl (lv_at hl 0 rfl) ?_
              refine va_get (D := G.1) (ci := 8) (v := .ref (g 9)) (C := RX9) (T := TX9) (N := 6) hx hb hts inlX9 hown hG.1 hP 7 (wl_at (by decide) hwt) rfl 1 (by decide) (hts (.fieldLink RX9 15 "SwornLists$Waits" "waits" "[I") w_105) (fun _ h9 => h9) rfl dX9_seek_54 ?_
              refine lv_iload_n hx hb dX9_seek_57 rfl (lv_at hl 3 rfl) ?_
              refine lv_dup2_11 hx hb dX9_seek_58 rfl rfl ?_
              refine va_iald hx hb hG.1 hP 9 0 (wl_at (by decide) hw9) rfl (vp_in_nI (by omega) (by decide)) dX9_seek_59 ?_
              refine lv_iconst (v := 1) hx hb dX9_seek_60 (by decide) ?_
              refine lv_iadd hx hb dX9_seek_61 ?_
              refine va_iast hx hb hG.1 hP (wl_D hg f_16) hS 9 0 (wl_at (by decide) hw9) rfl (vp_in_nI (by omega) (by decide)) dX9_seek_62 (fun H locs hP _ hS => ?_)
              obtain ⟨f_17, hP, e_17, o_17⟩ := b_put (by decide) hP
              have hw9 : f_17 9 = eI G 6 (upd w1 (Int32.toNatClampNeg (nI a)) ((w1 (Int32.toNatClampNeg (nI a))) + 1)) := e_17
              replace hwt := (o_17 7 (by decide)).trans hwt
              replace hw8 := (o_17 8 (by decide)).trans hw8
              replace hw10 := (o_17 10 (by decide)).trans hw10
              replace hw11 := (o_17 11 (by decide)).trans hw11
              replace hbk := (o_17 36 (by decide)).trans hbk
              replace htr := (o_17 45 (by decide)).trans htr
              replace hct := (o_17 46 (by decide)).trans hct
              refine lv_aload_n hx hb dX9_seek_63 rfl (lv_at hl 0 rfl) ?_
              refine lv_iload_n hx hb dX9_seek_64 rfl (lv_at hl 3 rfl) ?_
              refine rd_calli (va_runV (As := [.int (nI a)]) (rest := []) ⟨hx, hb, hml, hown, hts⟩ (v_sumTo l G g hg f_17 mn91 l1 (upd w1 (Int32.toNatClampNeg (nI a)) ((w1 (Int32.toNatClampNeg (nI a))) + 1)) a hwt hw9 (by first | assumption | omega | decide) (by first | assumption | omega | decide)) (my_cwV hts ok_X9_sumTo w_841 rfl rfl ⟨Nat.le_of_ble_eq_true rfl, Nat.le_of_ble_eq_true rfl⟩) ⟨bP.blind, va_recv hG.1 hP (ci := 8) (q0 := 7) rfl (wl_at (by decide) hwt), fun U hU hW => ⟨rfl, by rw [hU]; exact hP, kG.warm hW hG⟩⟩ rfl rfl hl.1 rfl (lv_room (Nat.le_of_ble_eq_true rfl)) dX9_seek_65 ⟨Nat.le_of_ble_eq_true rfl, Nat.le_of_ble_eq_true rfl⟩) (fun v10 _ => ?_)
              refine lv_istore (lv' := [(5, .int v10), (0, .ref (g 7)), (1, .ref (g 36)), (2, .int n), (3, .int (nI a)), (4, .int (nI i))]) hx hb dX9_seek_68 hl (by decide) rfl (fun ls hl => ?_)
              refine lv_aload_n hx hb dX9_seek_70 rfl (lv_at hl 1 rfl) ?_
              refine va_get (D := G.1) (ci := 8) (v := .ref (g 9)) (C := RX9) (T := TX9) (N := 6) hx hb hts inlX9 hown hG.1 hP 7 (wl_at (by decide) hwt) rfl 1 (by decide) (hts (.fieldLink RX9 15 "SwornLists$Waits" "waits" "[I") w_105) (fun _ h9 => h9) rfl dX9_seek_71 ?_
              refine lv_iload_n hx hb dX9_seek_74 rfl (lv_at hl 4 rfl) ?_
              refine va_iald hx hb hG.1 hP 9 0 (wl_at (by decide) hw9) rfl (vp_in_nI (by omega) (by decide)) dX9_seek_75 ?_
              refine lv_aload_n hx hb dX9_seek_76 rfl (lv_at hl 1 rfl) ?_
              refine lv_iload_n hx hb dX9_seek_77 rfl (lv_at hl 4 rfl) ?_
              refine rd_calli (va_runV (As := [.int (nI a)]) (rest := [.int ((upd w1 (Int32.toNatClampNeg (nI a)) ((w1 (Int32.toNatClampNeg (nI a))) + 1)) (Int32.toNatClampNeg (nI a)))]) ⟨hx, hb, hml, hown, hts⟩ (v_longestOf l G g hg f_17 mn91 l1 wf93 a hwt hw11 (by first | assumption | omega | decide) (by first | assumption | omega | decide)) (my_cwV hts ok_X9_longestOf w_845 rfl rfl ⟨Nat.le_of_ble_eq_true rfl, Nat.le_of_ble_eq_true rfl⟩) ⟨bP.blind, va_recv hG.1 hP (ci := 8) (q0 := 7) rfl (wl_at (by decide) hwt), fun U hU hW => ⟨rfl, by rw [hU]; exact hP, kG.warm hW hG⟩⟩ rfl rfl hl.1 rfl (lv_room (Nat.le_of_ble_eq_true rfl)) dX9_seek_78 ⟨Nat.le_of_ble_eq_true rfl, Nat.le_of_ble_eq_true rfl⟩) (fun v11 _ => ?_)
              refine lv_icmp_gt (tgt := 101) hx hb dX9_seek_81 (by decide) (fun c_81 => ?_) (fun c_81 => ?_)
              · refine lv_iinc (v := (nI a) + (-1)) (lv' := [(3, .int ((nI a) + (-1))), (5, .int v10), (0, .ref (g 7)), (1, .ref (g 36)), (2, .int n), (4, .int (nI i))]) hx hb dX9_seek_101 hl (k := 4) rfl (rfl) (by decide) rfl (fun ls hl => ?_)
                refine lv_goto (tgt := 160) hx hb dX9_seek_104 (by decide) ?_
                refine lv_iinc (v := nI (i + 1)) (lv' := [(4, .int (nI (i + 1))), (3, .int ((nI a) + (-1))), (5, .int v10), (0, .ref (g 7)), (1, .ref (g 36)), (2, .int n)]) hx hb dX9_seek_160 hl (k := 5) rfl (nI_1 i) (by decide) rfl (fun ls hl => ?_)
                refine lv_goto (tgt := 34) hx hb dX9_seek_163 (by decide) ?_
                exact ih_9 (i + 1) ((nI a) + (-1)) l1 (upd w1 (Int32.toNatClampNeg (nI a)) ((w1 (Int32.toNatClampNeg (nI a))) + 1)) b1 f_17 _ _ _ (hi9) (by omega) (hwt) (hw8) (hw9) (hw10) (hw11) (hbk) (htr) (hct) (fun j hj => ((o_17 j (by omega))).trans (o_16 j (by omega))) hP hS (lv_sub hl [3, 4, 5, 1, 0] rfl)
              · refine lv_aload_n hx hb dX9_seek_84 rfl (lv_at hl 1 rfl) ?_
                refine va_get (D := G.1) (ci := 8) (v := .int l1) (C := RX9) (T := TX9) (N := 6) hx hb hts inlX9 hown hG.1 hP 7 (wl_at (by decide) hwt) rfl 5 (by decide) (hts (.fieldLink RX9 32 "SwornLists$Waits" "leastSum" "I") w_825) (fun _ h9 => h9) rfl dX9_seek_85 ?_
                refine lv_iconst (v := (-1)) hx hb dX9_seek_88 (by decide) ?_
                refine lv_icmp_eq (tgt := 107) hx hb dX9_seek_89 (by decide) (fun c_89 => ?_) (fun c_89 => ?_)
                · refine lv_aload_n hx hb dX9_seek_107 rfl (lv_at hl 1 rfl) ?_
                  refine lv_aload_n hx hb dX9_seek_108 rfl (lv_at hl 2 rfl) ?_
                  refine lv_iload_n hx hb dX9_seek_109 rfl (lv_at hl 4 rfl) ?_
                  refine rd_calli (va_runV (As := [.ref (g 36), .int (nI a)]) (rest := []) ⟨hx, hb, hml, hown, hts⟩ (v_fits l G g hg f_17 mn91 l1 wt92 (upd w1 (Int32.toNatClampNeg (nI a)) ((w1 (Int32.toNatClampNeg (nI a))) + 1)) wf93 pay fine nt ct a hwt hw8 hw9 hw11 hbk htr hct (by first | assumption | omega | decide) (by first | assumption | omega | decide) (by first | assumption | omega | decide)) (my_cwV hts ok_X9_fits w_849 rfl rfl ⟨Nat.le_of_ble_eq_true rfl, Nat.le_of_ble_eq_true rfl⟩) ⟨bP.blind, va_recv hG.1 hP (ci := 8) (q0 := 7) rfl (wl_at (by decide) hwt), fun U hU hW => ⟨rfl, by rw [hU]; exact hP, kG.warm hW hG⟩⟩ rfl rfl hl.1 rfl (lv_room (Nat.le_of_ble_eq_true rfl)) dX9_seek_110 ⟨Nat.le_of_ble_eq_true rfl, Nat.le_of_ble_eq_true rfl⟩) (fun r hr9 => ?_)
                  obtain ⟨bz12, rfl⟩ := hr9
                  refine my_ifeq (tgt := 160) hx hb dX9_seek_113 (by decide) (fun c_113 => ?_) (fun c_113 => ?_)
                  · refine lv_iinc (v := nI (i + 1)) (lv' := [(4, .int (nI (i + 1))), (5, .int v10), (0, .ref (g 7)), (1, .ref (g 36)), (2, .int n), (3, .int (nI a))]) hx hb dX9_seek_160 hl (k := 5) rfl (nI_1 i) (by decide) rfl (fun ls hl => ?_)
                    refine lv_goto (tgt := 34) hx hb dX9_seek_163 (by decide) ?_
                    exact ih_9 (i + 1) (nI a) l1 (upd w1 (Int32.toNatClampNeg (nI a)) ((w1 (Int32.toNatClampNeg (nI a))) + 1)) b1 f_17 _ _ _ (hi9) (by omega) (hwt) (hw8) (hw9) (hw10) (hw11) (hbk) (htr) (hct) (fun j hj => ((o_17 j (by omega))).trans (o_16 j (by omega))) hP hS (lv_sub hl [2, 3, 4, 5, 0] rfl)
                  · refine lv_iload_n hx hb dX9_seek_116 rfl (lv_at hl 4 rfl) ?_
                    refine lv_aload_n hx hb dX9_seek_117 rfl (lv_at hl 1 rfl) ?_
                    refine va_get (D := G.1) (ci := 8) (v := .int (nI mn91)) (C := RX9) (T := TX9) (N := 6) hx hb hts inlX9 hown hG.1 hP 7 (wl_at (by decide) hwt) rfl 4 (by decide) (hts (.fieldLink RX9 24 "SwornLists$Waits" "many" "I") w_824) (fun _ h9 => h9) rfl dX9_seek_118 ?_
                    refine lv_iconst (v := 1) hx hb dX9_seek_121 (by decide) ?_
                    refine lv_isub hx hb dX9_seek_122 ?_
                    refine lv_icmp_ne (tgt := 150) hx hb dX9_seek_123 (by decide) (fun c_123 => ?_) (fun c_123 => ?_)
                    · have ha2 : a + 1 < mn91 := by
                        have h8 : ¬ nI a = nI mn91 - 1 := c_123
                        rw [show nI mn91 - 1 = nI (mn91 - 1) from pk_sub (b := 1) (by omega)] at h8
                        have h7 : ¬ a = mn91 - 1 := fun z => h8 (by rw [z])
                        omega
                      refine lv_iinc (v := nI (a + 1)) (lv' := [(3, .int (nI (a + 1))), (5, .int v10), (0, .ref (g 7)), (1, .ref (g 36)), (2, .int n), (4, .int (nI i))]) hx hb dX9_seek_150 hl (k := 4) rfl (nI_1 a) (by decide) rfl (fun ls hl => ?_)
                      refine lv_aload_n hx hb dX9_seek_153 rfl (lv_at hl 2 rfl) ?_
                      refine va_get (D := G.1) (ci := 8) (v := .ref (g 9)) (C := RX9) (T := TX9) (N := 6) hx hb hts inlX9 hown hG.1 hP 7 (wl_at (by decide) hwt) rfl 1 (by decide) (hts (.fieldLink RX9 15 "SwornLists$Waits" "waits" "[I") w_105) (fun _ h9 => h9) rfl dX9_seek_154 ?_
                      refine lv_iload_n hx hb dX9_seek_157 rfl (lv_at hl 0 rfl) ?_
                      refine lv_iconst (v := (-1)) hx hb dX9_seek_158 (by decide) ?_
                      refine va_iast hx hb hG.1 hP (wl_D hg f_17) hS 9 0 (wl_at (by decide) hw9) rfl (vp_in_nI (by omega) (by decide)) dX9_seek_159 (fun H locs hP _ hS => ?_)
                      obtain ⟨f_19, hP, e_19, o_19⟩ := b_put (by decide) hP
                      have hw9 : f_19 9 = eI G 6 (upd (upd w1 (Int32.toNatClampNeg (nI a)) ((w1 (Int32.toNatClampNeg (nI a))) + 1)) (Int32.toNatClampNeg (nI (a + 1))) (-1)) := e_19
                      replace hwt := (o_19 7 (by decide)).trans hwt
                      replace hw8 := (o_19 8 (by decide)).trans hw8
                      replace hw10 := (o_19 10 (by decide)).trans hw10
                      replace hw11 := (o_19 11 (by decide)).trans hw11
                      replace hbk := (o_19 36 (by decide)).trans hbk
                      replace htr := (o_19 45 (by decide)).trans htr
                      replace hct := (o_19 46 (by decide)).trans hct
                      refine lv_iinc (v := nI (i + 1)) (lv' := [(4, .int (nI (i + 1))), (3, .int (nI (a + 1))), (5, .int v10), (0, .ref (g 7)), (1, .ref (g 36)), (2, .int n)]) hx hb dX9_seek_160 hl (k := 5) rfl (nI_1 i) (by decide) rfl (fun ls hl => ?_)
                      refine lv_goto (tgt := 34) hx hb dX9_seek_163 (by decide) ?_
                      exact ih_9 (i + 1) (nI (a + 1)) l1 (upd (upd w1 (Int32.toNatClampNeg (nI a)) ((w1 (Int32.toNatClampNeg (nI a))) + 1)) (Int32.toNatClampNeg (nI (a + 1))) (-1)) b1 f_19 _ _ _ (hi9) (by omega) (hwt) (hw8) (hw9) (hw10) (hw11) (hbk) (htr) (hct) (fun j hj => (((o_19 j (by omega))).trans (o_17 j (by omega))).trans (o_16 j (by omega))) hP hS (lv_sub hl [3, 4, 5, 1, 0] rfl)
                    · refine lv_aload_n hx hb dX9_seek_126 rfl (lv_at hl 1 rfl) ?_
                      refine lv_iload hx hb dX9_seek_127 (lv_at hl 0 rfl) ?_
                      refine va_put (D := G.1) (ci := 8) (v := .int v10) (ty := .int) (C := RX9) (T := TX9) (N := 6) hx hb hts inlX9 tyX9 tyX9_ok nmX9 hown hG.1 hP (wl_D hg f_17) hS 7 (wl_at (by decide) hwt) rfl 5 (by decide) (hts (.fieldLink RX9 32 "SwornLists$Waits" "leastSum" "I") w_825) (fun _ h9 => h9) rfl (by decide +kernel) rfl rfl (Nat.le_of_ble_eq_true rfl) dX9_seek_129 (fun H locs hP _ hS => ?_)
                      obtain ⟨f_20, hP, e_20, o_20⟩ := b_put (by decide) hP
                      have hwt : f_20 7 = eO 8 [.ref (g 8), .ref (g 9), .ref (g 10), .ref (g 11), .int (nI mn91), .int v10] := e_20
                      replace hw8 := (o_20 8 (by decide)).trans hw8
                      replace hw9 := (o_20 9 (by decide)).trans hw9
                      replace hw10 := (o_20 10 (by decide)).trans hw10
                      replace hw11 := (o_20 11 (by decide)).trans hw11
                      replace hbk := (o_20 36 (by decide)).trans hbk
                      replace htr := (o_20 45 (by decide)).trans htr
                      replace hct := (o_20 46 (by decide)).trans hct
                      refine lv_aload_n hx hb dX9_seek_132 rfl (lv_at hl 1 rfl) ?_
                      refine va_get (D := G.1) (ci := 8) (v := .ref (g 9)) (C := RX9) (T := TX9) (N := 6) hx hb hts inlX9 hown hG.1 hP 7 (wl_at (by decide) hwt) rfl 1 (by decide) (hts (.fieldLink RX9 15 "SwornLists$Waits" "waits" "[I") w_105) (fun _ h9 => h9) rfl dX9_seek_133 ?_
                      refine lv_iconst (v := 0) hx hb dX9_seek_136 (by decide) ?_
                      refine lv_aload_n hx hb dX9_seek_137 rfl (lv_at hl 1 rfl) ?_
                      refine va_get (D := G.1) (ci := 8) (v := .ref (g 10)) (C := RX9) (T := TX9) (N := 6) hx hb hts inlX9 hown hG.1 hP 7 (wl_at (by decide) hwt) rfl 2 (by decide) (hts (.fieldLink RX9 18 "SwornLists$Waits" "best" "[I") w_106) (fun _ h9 => h9) rfl dX9_seek_138 ?_
                      refine lv_iconst (v := 0) hx hb dX9_seek_141 (by decide) ?_
                      refine lv_bipush (v := 6) hx hb dX9_seek_142 (by decide) ?_
                      refine va_copyi hx hb (by rw [hml]; exact hl.1.symm) hown (hts (.methodLink RX9 47 arraycopyName) w_827) (hts (.native arraycopyName) w_599) (hts (.static arraycopyName) w_600) (hts (.initialized "java/lang/System") w_601) hG.1 hP (wl_D hg f_20) hS 9 10 0 0 (wl_at (by decide) hw9) (wl_at (by decide) hw10) rfl rfl rfl (by decide) (by decide) (by decide) (by decide) (by decide) (fun _ _ => rfl) (Nat.le_of_ble_eq_true rfl) (Nat.le_of_ble_eq_true rfl) dX9_seek_144 (fun H locs hP _ hS => ?_)
                      obtain ⟨f_21, hP, e_21, o_21⟩ := b_put (by decide) hP
                      have hw10 : f_21 10 = eI G 6 (va_cpy (upd w1 (Int32.toNatClampNeg (nI a)) ((w1 (Int32.toNatClampNeg (nI a))) + 1)) b1 (Int32.toNatClampNeg 0) (Int32.toNatClampNeg 0) (Int32.toNatClampNeg 6)) := e_21
                      replace hwt := (o_21 7 (by decide)).trans hwt
                      replace hw8 := (o_21 8 (by decide)).trans hw8
                      replace hw9 := (o_21 9 (by decide)).trans hw9
                      replace hw11 := (o_21 11 (by decide)).trans hw11
                      replace hbk := (o_21 36 (by decide)).trans hbk
                      replace htr := (o_21 45 (by decide)).trans htr
                      replace hct := (o_21 46 (by decide)).trans hct
                      refine lv_goto (tgt := 160) hx hb dX9_seek_147 (by decide) ?_
                      refine lv_iinc (v := nI (i + 1)) (lv' := [(4, .int (nI (i + 1))), (5, .int v10), (0, .ref (g 7)), (1, .ref (g 36)), (2, .int n), (3, .int (nI a))]) hx hb dX9_seek_160 hl (k := 5) rfl (nI_1 i) (by decide) rfl (fun ls hl => ?_)
                      refine lv_goto (tgt := 34) hx hb dX9_seek_163 (by decide) ?_
                      exact ih_9 (i + 1) (nI a) v10 (upd w1 (Int32.toNatClampNeg (nI a)) ((w1 (Int32.toNatClampNeg (nI a))) + 1)) (va_cpy (upd w1 (Int32.toNatClampNeg (nI a)) ((w1 (Int32.toNatClampNeg (nI a))) + 1)) b1 (Int32.toNatClampNeg 0) (Int32.toNatClampNeg 0) (Int32.toNatClampNeg 6)) f_21 _ _ _ (hi9) (by omega) (hwt) (hw8) (hw9) (hw10) (hw11) (hbk) (htr) (hct) (fun j hj => ((((o_21 j (by omega))).trans (o_20 j (by omega))).trans (o_17 j (by omega))).trans (o_16 j (by omega))) hP hS (lv_sub hl [2, 3, 4, 5, 0] rfl)
                · refine lv_iload hx hb dX9_seek_92 (lv_at hl 0 rfl) ?_
                  refine lv_aload_n hx hb dX9_seek_94 rfl (lv_at hl 1 rfl) ?_
                  refine va_get (D := G.1) (ci := 8) (v := .int l1) (C := RX9) (T := TX9) (N := 6) hx hb hts inlX9 hown hG.1 hP 7 (wl_at (by decide) hwt) rfl 5 (by decide) (hts (.fieldLink RX9 32 "SwornLists$Waits" "leastSum" "I") w_825) (fun _ h9 => h9) rfl dX9_seek_95 ?_
                  refine lv_icmp_lt (tgt := 107) hx hb dX9_seek_98 (by decide) (fun c_98 => ?_) (fun c_98 => ?_)
                  · refine lv_aload_n hx hb dX9_seek_107 rfl (lv_at hl 1 rfl) ?_
                    refine lv_aload_n hx hb dX9_seek_108 rfl (lv_at hl 2 rfl) ?_
                    refine lv_iload_n hx hb dX9_seek_109 rfl (lv_at hl 4 rfl) ?_
                    refine rd_calli (va_runV (As := [.ref (g 36), .int (nI a)]) (rest := []) ⟨hx, hb, hml, hown, hts⟩ (v_fits l G g hg f_17 mn91 l1 wt92 (upd w1 (Int32.toNatClampNeg (nI a)) ((w1 (Int32.toNatClampNeg (nI a))) + 1)) wf93 pay fine nt ct a hwt hw8 hw9 hw11 hbk htr hct (by first | assumption | omega | decide) (by first | assumption | omega | decide) (by first | assumption | omega | decide)) (my_cwV hts ok_X9_fits w_849 rfl rfl ⟨Nat.le_of_ble_eq_true rfl, Nat.le_of_ble_eq_true rfl⟩) ⟨bP.blind, va_recv hG.1 hP (ci := 8) (q0 := 7) rfl (wl_at (by decide) hwt), fun U hU hW => ⟨rfl, by rw [hU]; exact hP, kG.warm hW hG⟩⟩ rfl rfl hl.1 rfl (lv_room (Nat.le_of_ble_eq_true rfl)) dX9_seek_110 ⟨Nat.le_of_ble_eq_true rfl, Nat.le_of_ble_eq_true rfl⟩) (fun r hr9 => ?_)
                    obtain ⟨bz13, rfl⟩ := hr9
                    refine my_ifeq (tgt := 160) hx hb dX9_seek_113 (by decide) (fun c_113 => ?_) (fun c_113 => ?_)
                    · refine lv_iinc (v := nI (i + 1)) (lv' := [(4, .int (nI (i + 1))), (5, .int v10), (0, .ref (g 7)), (1, .ref (g 36)), (2, .int n), (3, .int (nI a))]) hx hb dX9_seek_160 hl (k := 5) rfl (nI_1 i) (by decide) rfl (fun ls hl => ?_)
                      refine lv_goto (tgt := 34) hx hb dX9_seek_163 (by decide) ?_
                      exact ih_9 (i + 1) (nI a) l1 (upd w1 (Int32.toNatClampNeg (nI a)) ((w1 (Int32.toNatClampNeg (nI a))) + 1)) b1 f_17 _ _ _ (hi9) (by omega) (hwt) (hw8) (hw9) (hw10) (hw11) (hbk) (htr) (hct) (fun j hj => ((o_17 j (by omega))).trans (o_16 j (by omega))) hP hS (lv_sub hl [2, 3, 4, 5, 0] rfl)
                    · refine lv_iload_n hx hb dX9_seek_116 rfl (lv_at hl 4 rfl) ?_
                      refine lv_aload_n hx hb dX9_seek_117 rfl (lv_at hl 1 rfl) ?_
                      refine va_get (D := G.1) (ci := 8) (v := .int (nI mn91)) (C := RX9) (T := TX9) (N := 6) hx hb hts inlX9 hown hG.1 hP 7 (wl_at (by decide) hwt) rfl 4 (by decide) (hts (.fieldLink RX9 24 "SwornLists$Waits" "many" "I") w_824) (fun _ h9 => h9) rfl dX9_seek_118 ?_
                      refine lv_iconst (v := 1) hx hb dX9_seek_121 (by decide) ?_
                      refine lv_isub hx hb dX9_seek_122 ?_
                      refine lv_icmp_ne (tgt := 150) hx hb dX9_seek_123 (by decide) (fun c_123 => ?_) (fun c_123 => ?_)
                      · have ha2 : a + 1 < mn91 := by
                          have h8 : ¬ nI a = nI mn91 - 1 := c_123
                          rw [show nI mn91 - 1 = nI (mn91 - 1) from pk_sub (b := 1) (by omega)] at h8
                          have h7 : ¬ a = mn91 - 1 := fun z => h8 (by rw [z])
                          omega
                        refine lv_iinc (v := nI (a + 1)) (lv' := [(3, .int (nI (a + 1))), (5, .int v10), (0, .ref (g 7)), (1, .ref (g 36)), (2, .int n), (4, .int (nI i))]) hx hb dX9_seek_150 hl (k := 4) rfl (nI_1 a) (by decide) rfl (fun ls hl => ?_)
                        refine lv_aload_n hx hb dX9_seek_153 rfl (lv_at hl 2 rfl) ?_
                        refine va_get (D := G.1) (ci := 8) (v := .ref (g 9)) (C := RX9) (T := TX9) (N := 6) hx hb hts inlX9 hown hG.1 hP 7 (wl_at (by decide) hwt) rfl 1 (by decide) (hts (.fieldLink RX9 15 "SwornLists$Waits" "waits" "[I") w_105) (fun _ h9 => h9) rfl dX9_seek_154 ?_
                        refine lv_iload_n hx hb dX9_seek_157 rfl (lv_at hl 0 rfl) ?_
                        refine lv_iconst (v := (-1)) hx hb dX9_seek_158 (by decide) ?_
                        refine va_iast hx hb hG.1 hP (wl_D hg f_17) hS 9 0 (wl_at (by decide) hw9) rfl (vp_in_nI (by omega) (by decide)) dX9_seek_159 (fun H locs hP _ hS => ?_)
                        obtain ⟨f_23, hP, e_23, o_23⟩ := b_put (by decide) hP
                        have hw9 : f_23 9 = eI G 6 (upd (upd w1 (Int32.toNatClampNeg (nI a)) ((w1 (Int32.toNatClampNeg (nI a))) + 1)) (Int32.toNatClampNeg (nI (a + 1))) (-1)) := e_23
                        replace hwt := (o_23 7 (by decide)).trans hwt
                        replace hw8 := (o_23 8 (by decide)).trans hw8
                        replace hw10 := (o_23 10 (by decide)).trans hw10
                        replace hw11 := (o_23 11 (by decide)).trans hw11
                        replace hbk := (o_23 36 (by decide)).trans hbk
                        replace htr := (o_23 45 (by decide)).trans htr
                        replace hct := (o_23 46 (by decide)).trans hct
                        refine lv_iinc (v := nI (i + 1)) (lv' := [(4, .int (nI (i + 1))), (3, .int (nI (a + 1))), (5, .int v10), (0, .ref (g 7)), (1, .ref (g 36)), (2, .int n)]) hx hb dX9_seek_160 hl (k := 5) rfl (nI_1 i) (by decide) rfl (fun ls hl => ?_)
                        refine lv_goto (tgt := 34) hx hb dX9_seek_163 (by decide) ?_
                        exact ih_9 (i + 1) (nI (a + 1)) l1 (upd (upd w1 (Int32.toNatClampNeg (nI a)) ((w1 (Int32.toNatClampNeg (nI a))) + 1)) (Int32.toNatClampNeg (nI (a + 1))) (-1)) b1 f_23 _ _ _ (hi9) (by omega) (hwt) (hw8) (hw9) (hw10) (hw11) (hbk) (htr) (hct) (fun j hj => (((o_23 j (by omega))).trans (o_17 j (by omega))).trans (o_16 j (by omega))) hP hS (lv_sub hl [3, 4, 5, 1, 0] rfl)
                      · refine lv_aload_n hx hb dX9_seek_126 rfl (lv_at hl 1 rfl) ?_
                        refine lv_iload hx hb dX9_seek_127 (lv_at hl 0 rfl) ?_
                        refine va_put (D := G.1) (ci := 8) (v := .int v10) (ty := .int) (C := RX9) (T := TX9) (N := 6) hx hb hts inlX9 tyX9 tyX9_ok nmX9 hown hG.1 hP (wl_D hg f_17) hS 7 (wl_at (by decide) hwt) rfl 5 (by decide) (hts (.fieldLink RX9 32 "SwornLists$Waits" "leastSum" "I") w_825) (fun _ h9 => h9) rfl (by decide +kernel) rfl rfl (Nat.le_of_ble_eq_true rfl) dX9_seek_129 (fun H locs hP _ hS => ?_)
                        obtain ⟨f_24, hP, e_24, o_24⟩ := b_put (by decide) hP
                        have hwt : f_24 7 = eO 8 [.ref (g 8), .ref (g 9), .ref (g 10), .ref (g 11), .int (nI mn91), .int v10] := e_24
                        replace hw8 := (o_24 8 (by decide)).trans hw8
                        replace hw9 := (o_24 9 (by decide)).trans hw9
                        replace hw10 := (o_24 10 (by decide)).trans hw10
                        replace hw11 := (o_24 11 (by decide)).trans hw11
                        replace hbk := (o_24 36 (by decide)).trans hbk
                        replace htr := (o_24 45 (by decide)).trans htr
                        replace hct := (o_24 46 (by decide)).trans hct
                        refine lv_aload_n hx hb dX9_seek_132 rfl (lv_at hl 1 rfl) ?_
                        refine va_get (D := G.1) (ci := 8) (v := .ref (g 9)) (C := RX9) (T := TX9) (N := 6) hx hb hts inlX9 hown hG.1 hP 7 (wl_at (by decide) hwt) rfl 1 (by decide) (hts (.fieldLink RX9 15 "SwornLists$Waits" "waits" "[I") w_105) (fun _ h9 => h9) rfl dX9_seek_133 ?_
                        refine lv_iconst (v := 0) hx hb dX9_seek_136 (by decide) ?_
                        refine lv_aload_n hx hb dX9_seek_137 rfl (lv_at hl 1 rfl) ?_
                        refine va_get (D := G.1) (ci := 8) (v := .ref (g 10)) (C := RX9) (T := TX9) (N := 6) hx hb hts inlX9 hown hG.1 hP 7 (wl_at (by decide) hwt) rfl 2 (by decide) (hts (.fieldLink RX9 18 "SwornLists$Waits" "best" "[I") w_106) (fun _ h9 => h9) rfl dX9_seek_138 ?_
                        refine lv_iconst (v := 0) hx hb dX9_seek_141 (by decide) ?_
                        refine lv_bipush (v := 6) hx hb dX9_seek_142 (by decide) ?_
                        refine va_copyi hx hb (by rw [hml]; exact hl.1.symm) hown (hts (.methodLink RX9 47 arraycopyName) w_827) (hts (.native arraycopyName) w_599) (hts (.static arraycopyName) w_600) (hts (.initialized "java/lang/System") w_601) hG.1 hP (wl_D hg f_24) hS 9 10 0 0 (wl_at (by decide) hw9) (wl_at (by decide) hw10) rfl rfl rfl (by decide) (by decide) (by decide) (by decide) (by decide) (fun _ _ => rfl) (Nat.le_of_ble_eq_true rfl) (Nat.le_of_ble_eq_true rfl) dX9_seek_144 (fun H locs hP _ hS => ?_)
                        obtain ⟨f_25, hP, e_25, o_25⟩ := b_put (by decide) hP
                        have hw10 : f_25 10 = eI G 6 (va_cpy (upd w1 (Int32.toNatClampNeg (nI a)) ((w1 (Int32.toNatClampNeg (nI a))) + 1)) b1 (Int32.toNatClampNeg 0) (Int32.toNatClampNeg 0) (Int32.toNatClampNeg 6)) := e_25
                        replace hwt := (o_25 7 (by decide)).trans hwt
                        replace hw8 := (o_25 8 (by decide)).trans hw8
                        replace hw9 := (o_25 9 (by decide)).trans hw9
                        replace hw11 := (o_25 11 (by decide)).trans hw11
                        replace hbk := (o_25 36 (by decide)).trans hbk
                        replace htr := (o_25 45 (by decide)).trans htr
                        replace hct := (o_25 46 (by decide)).trans hct
                        refine lv_goto (tgt := 160) hx hb dX9_seek_147 (by decide) ?_
                        refine lv_iinc (v := nI (i + 1)) (lv' := [(4, .int (nI (i + 1))), (5, .int v10), (0, .ref (g 7)), (1, .ref (g 36)), (2, .int n), (3, .int (nI a))]) hx hb dX9_seek_160 hl (k := 5) rfl (nI_1 i) (by decide) rfl (fun ls hl => ?_)
                        refine lv_goto (tgt := 34) hx hb dX9_seek_163 (by decide) ?_
                        exact ih_9 (i + 1) (nI a) v10 (upd w1 (Int32.toNatClampNeg (nI a)) ((w1 (Int32.toNatClampNeg (nI a))) + 1)) (va_cpy (upd w1 (Int32.toNatClampNeg (nI a)) ((w1 (Int32.toNatClampNeg (nI a))) + 1)) b1 (Int32.toNatClampNeg 0) (Int32.toNatClampNeg 0) (Int32.toNatClampNeg 6)) f_25 _ _ _ (hi9) (by omega) (hwt) (hw8) (hw9) (hw10) (hw11) (hbk) (htr) (hct) (fun j hj => ((((o_25 j (by omega))).trans (o_24 j (by omega))).trans (o_17 j (by omega))).trans (o_16 j (by omega))) hP hS (lv_sub hl [2, 3, 4, 5, 0] rfl)
                  · refine lv_iinc (v := (nI a) + (-1)) (lv' := [(3, .int ((nI a) + (-1))), (5, .int v10), (0, .ref (g 7)), (1, .ref (g 36)), (2, .int n), (4, .int (nI i))]) hx hb dX9_seek_101 hl (k := 4) rfl (rfl) (by decide) rfl (fun ls hl => ?_)
                    refine lv_goto (tgt := 160) hx hb dX9_seek_104 (by decide) ?_
                    refine lv_iinc (v := nI (i + 1)) (lv' := [(4, .int (nI (i + 1))), (3, .int ((nI a) + (-1))), (5, .int v10), (0, .ref (g 7)), (1, .ref (g 36)), (2, .int n)]) hx hb dX9_seek_160 hl (k := 5) rfl (nI_1 i) (by decide) rfl (fun ls hl => ?_)
                    refine lv_goto (tgt := 34) hx hb dX9_seek_163 (by decide) ?_
                    exact ih_9 (i + 1) ((nI a) + (-1)) l1 (upd w1 (Int32.toNatClampNeg (nI a)) ((w1 (Int32.toNatClampNeg (nI a))) + 1)) b1 f_17 _ _ _ (hi9) (by omega) (hwt) (hw8) (hw9) (hw10) (hw11) (hbk) (htr) (hct) (fun j hj => ((o_17 j (by omega))).trans (o_16 j (by omega))) hP hS (lv_sub hl [3, 4, 5, 1, 0] rfl)
    exact key9 (1000000 + 1) 0 0 0 (upd ww (Int32.toNatClampNeg 0) (-1)) wb f_15 _ _ _ (Nat.zero_le _) (by omega) (hwt) (hw8) (hw9) (hw10) (hw11) (hbk) (htr) (hct) (fun j _ => rfl) hP hS (lv_sub hl [2, 3, 4, 1, 0] rfl)

