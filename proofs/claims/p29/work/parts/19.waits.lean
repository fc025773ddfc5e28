theorem le_i32 {a : Nat} {y : Int32} (ha : a < 2 ^ 31) (h : ¬ y < nI a) : (a : Int) ≤ y.toInt := by
  have h2 : ¬ y.toInt < (nI a).toInt := fun z => h (Int32.lt_iff_toInt_lt.mpr z)
  rw [nI_toInt ha] at h2
  omega
theorem i2l_ne {i : Nat} (h1 : 1 ≤ i) (h2 : i < 2 ^ 31) : ¬ Int32.toInt64 (nI i) = 0 := fun z => by
  have h3 := congrArg Int64.toInt z
  rw [Int32.toInt_toInt64, nI_toInt h2] at h3
  have h4 : (0 : Int64).toInt = 0 := by decide
  omega
theorem ok_X2_become : okV yX2_become cX2_become 7 (some .int) 2 := ⟨⟨w_767, w_27, ⟨by decide +kernel, by decide +kernel, by decide +kernel⟩⟩, trivial, w_765, w_766⟩
theorem ok_X2_commonDivisor : okS yX2_commonDivisor cX2_commonDivisor 11 (some .long) 2 := ⟨⟨w_770, w_27, ⟨by decide +kernel, by decide +kernel, by decide +kernel⟩⟩, trivial, w_769, trivial⟩
theorem ok_X10_ways : okS yX10_ways cX10_ways 5 (some .long) 2 := ⟨⟨w_763, w_2, ⟨by decide +kernel, by decide +kernel, by decide +kernel⟩⟩, trivial, w_762, trivial⟩
theorem ok_X9_bestAt : okV yX9_bestAt cX9_bestAt 2 (some .int) 1 := ⟨⟨w_858, w_31, ⟨by decide +kernel, by decide +kernel, by decide +kernel⟩⟩, trivial, w_856, w_857⟩
theorem ok_X9_seek : okV yX9_seek cX9_seek 6 none 2 := ⟨⟨w_823, w_31, ⟨by decide +kernel, by decide +kernel, by decide +kernel⟩⟩, trivial, w_821, w_822⟩
theorem ok_X9_gather : okV yX9_gather cX9_gather 5 none 2 := ⟨⟨w_831, w_31, ⟨by decide +kernel, by decide +kernel, by decide +kernel⟩⟩, trivial, w_829, w_830⟩
theorem ok_X9_longestOf : okV yX9_longestOf cX9_longestOf 2 (some .int) 1 := ⟨⟨w_848, w_31, ⟨by decide +kernel, by decide +kernel, by decide +kernel⟩⟩, trivial, w_846, w_847⟩
theorem ok_X9_sumTo : okV yX9_sumTo cX9_sumTo 4 (some .int) 1 := ⟨⟨w_844, w_31, ⟨by decide +kernel, by decide +kernel, by decide +kernel⟩⟩, trivial, w_842, w_843⟩
theorem ok_X9_fits : okV yX9_fits cX9_fits 8 (some .boolean) 2 := ⟨⟨w_852, w_31, ⟨by decide +kernel, by decide +kernel, by decide +kernel⟩⟩, trivial, w_850, w_851⟩
set_option maxHeartbeats 4000000 in
set_option maxRecDepth 100000 in
theorem f_div (l : Launch) (G : gW) (g : Nat → Nat) (hg : gOK g) (f : Nat → va_E) (n : Int64) (q : Int64)   : Met l yX2_commonDivisor (wsT yX2_commonDivisor cX2_commonDivisor 11 (some .long)) ({ frames := 0, cells := 0, slots := 0, locals := 0 }) (bP G g f [.long n, .long q]) (rQl (fun z9 => True)) 0 0 fr0 := by
  refine Met.ofW (cc := cX2_commonDivisor) (maxL := 11) (ret := (some .long)) (by decide) rfl ?_
  intro p e s m args below meth c s₁ B hml hv
  obtain ⟨rfl, hP, hG⟩ := hv
  have hx := B.exec
  have hb := B.bytes
  have hr := B.returns
  have hts := my_hts (atoms_spec (ws := wsT yX2_commonDivisor cX2_commonDivisor 11 (some .long)) B.pre)
  have hown : s.vm.findClass RX2 = some m.cls := findClass_of_methodNamed B.named
  have hlocks := B.notSynchronized
  have hl := lv_entry ([.long n, .long q]) (n := 11) (Nat.le_of_ble_eq_true rfl)
  rw [lg_entry_eq]
  generalize (lg_sl ([.long n, .long q]) ++ List.replicate (11 - (lg_sl ([.long n, .long q])).length) Slot.unset).toArray = ls at hl ⊢
  have hl : lv_has ls 11 [(0, .long n), (2, .long q)] := hl
  refine lv_lload_n hx hb dX2_commonDivisor_0 rfl (lv_at hl 0 rfl) ?_
  refine lv_lstore (lv' := [(4, .long n), (0, .long n), (2, .long q)]) hx hb dX2_commonDivisor_1 hl (by decide) rfl (fun ls hl => ?_)
  refine lv_lload_n hx hb dX2_commonDivisor_3 rfl (lv_at hl 2 rfl) ?_
  refine lv_lstore (lv' := [(6, .long q), (4, .long n), (0, .long n), (2, .long q)]) hx hb dX2_commonDivisor_4 hl (by decide) rfl (fun ls hl => ?_)
  refine lv_iconst (v := 0) hx hb dX2_commonDivisor_6 (by decide) ?_
  refine lv_istore (lv' := [(8, .int 0), (6, .long q), (4, .long n), (0, .long n), (2, .long q)]) hx hb dX2_commonDivisor_7 hl (by decide) rfl (fun ls hl => ?_)
  have key1 : ∀ (n9_1 : Nat) (u : Int64) (w : Int64) (i : Nat) (ls : Array Slot), (i ≤ 200) → 200 - i < n9_1 → lv_has ls 11 [(4, .long u), (6, .long w), (8, .int (nI i))] → W p l e (headSpec (wsT yX2_commonDivisor cX2_commonDivisor 11 (some .long)) ({ frames := 0, cells := 0, slots := 0, locals := 0 })).room s m ([.long n, .long q] : List Value).toArray below meth c s.heap [] 0 0 (MQ below (rQl (fun z9 => True)) ([.long n, .long q] : List Value).toArray s 0 0 fr0) (F0 m 9 ls []) := by
    intro n9_1
    induction n9_1 with
    | zero => intro u w i ls hi hn9_1; exact absurd hn9_1 (Nat.not_lt_zero _)
    | succ n9_1 ih_1 =>
      intro u w i ls hi hn9_1 hl
      refine lv_iload hx hb dX2_commonDivisor_9 (lv_at hl 2 rfl) ?_
      refine lv_sipush (v := 200) hx hb dX2_commonDivisor_11 (by decide) ?_
      refine lv_icmp_ge (tgt := 45) hx hb dX2_commonDivisor_14 (by decide) (fun c_14 => ?_) (fun c_14 => ?_)
      · refine lv_lload hx hb dX2_commonDivisor_45 (lv_at hl 0 rfl) ?_
        exact W.lret (v := u) hx hb hr (fun t ht hW => ⟨_, rfl, (trivial), ht⟩) (fun _ h => absurd h List.not_mem_nil) dX2_commonDivisor_47
      · have hi9 : i < 200 := Nat.not_le.mp (fun z => c_14 (nI_le z (by omega)))
        refine lv_lload hx hb dX2_commonDivisor_17 (lv_at hl 1 rfl) ?_
        refine lv_lconst (v := 0) hx hb dX2_commonDivisor_19 (by decide) ?_
        refine W.lcmp hx hb dX2_commonDivisor_20 ?_
        refine lv_if_eq (tgt := 45) hx hb dX2_commonDivisor_21 (by decide) (fun c_21 => ?_) (fun c_21 => ?_)
        · refine lv_lload hx hb dX2_commonDivisor_45 (lv_at hl 0 rfl) ?_
          exact W.lret (v := u) hx hb hr (fun t ht hW => ⟨_, rfl, (trivial), ht⟩) (fun _ h => absurd h List.not_mem_nil) dX2_commonDivisor_47
        · refine lv_lload hx hb dX2_commonDivisor_24 (lv_at hl 0 rfl) ?_
          refine lv_lload hx hb dX2_commonDivisor_26 (lv_at hl 1 rfl) ?_
          refine lv_lrem hx hb dX2_commonDivisor_28 (fun z => c_21 ((lg_cmp_eq _ _).mpr z)) ?_
          refine lv_lstore (lv' := [(9, .long (u - u / w * w)), (4, .long u), (6, .long w), (8, .int (nI i))]) hx hb dX2_commonDivisor_29 hl (by decide) rfl (fun ls hl => ?_)
          refine lv_lload hx hb dX2_commonDivisor_31 (lv_at hl 2 rfl) ?_
          refine lv_lstore (lv' := [(4, .long w), (9, .long (u - u / w * w)), (6, .long w), (8, .int (nI i))]) hx hb dX2_commonDivisor_33 hl (by decide) rfl (fun ls hl => ?_)
          refine lv_lload hx hb dX2_commonDivisor_35 (lv_at hl 1 rfl) ?_
          refine lv_lstore (lv' := [(6, .long (u - u / w * w)), (4, .long w), (9, .long (u - u / w * w)), (8, .int (nI i))]) hx hb dX2_commonDivisor_37 hl (by decide) rfl (fun ls hl => ?_)
          refine lv_iinc (v := nI (i + 1)) (lv' := [(8, .int (nI (i + 1))), (6, .long (u - u / w * w)), (4, .long w), (9, .long (u - u / w * w))]) hx hb dX2_commonDivisor_39 hl (k := 3) rfl (nI_1 i) (by decide) rfl (fun ls hl => ?_)
          refine lv_goto (tgt := 9) hx hb dX2_commonDivisor_42 (by decide) ?_
          exact ih_1 w (u - u / w * w) (i + 1) _ (hi9) (by omega) (lv_sub hl [2, 1, 0] rfl)
  exact key1 (200 + 1) n q 0 _ (Nat.zero_le _) (by omega) (lv_sub hl [2, 1, 0] rfl)
set_option maxHeartbeats 4000000 in
set_option maxRecDepth 100000 in
theorem f_become (l : Launch) (G : gW) (g : Nat → Nat) (hg : gOK g) (f : Nat → va_E) (ab : Int64) (be : Int64) (n : Int64) (q : Int64) (hfc6 : f 6 = eO 2 [.long ab, .long be])  : Met l yX2_become (wsT yX2_become cX2_become 7 (some .int)) ({ frames := 1, cells := 0, slots := 0, locals := 30 }) (bP G g f [.ref (g 6), .long n, .long q]) (bQi G g (fun (z9 : Int32) (f' : Nat → va_E) => ∃ ab9 : Int64, ∃ be9 : Int64, f' 6 = eO 2 [.long ab9, .long be9] ∧ ∀ j, j ≠ 6 → f' j = f j)) 0 0 (gA g) := by
  refine Met.ofW (cc := cX2_become) (maxL := 7) (ret := (some .int)) (by decide) rfl ?_
  intro p e s m args below meth c s₁ B hml hv
  obtain ⟨rfl, hP, hG⟩ := hv
  have hx := B.exec
  have hb := B.bytes
  have hr := B.returns
  have hts := my_hts (atoms_spec (ws := wsT yX2_become cX2_become 7 (some .int)) B.pre)
  have hown : s.vm.findClass RX2 = some m.cls := findClass_of_methodNamed B.named
  have hlocks := B.notSynchronized
  have hS : va_S (gA g) s.heap s.heap [] := va_S.rf
  have hl := lv_entry ([.ref (g 6), .long n, .long q]) (n := 7) (Nat.le_of_ble_eq_true rfl)
  rw [lg_entry_eq]
  generalize (lg_sl ([.ref (g 6), .long n, .long q]) ++ List.replicate (7 - (lg_sl ([.ref (g 6), .long n, .long q])).length) Slot.unset).toArray = ls at hl ⊢
  have hl : lv_has ls 7 [(0, .ref (g 6)), (1, .long n), (3, .long q)] := hl
  refine lv_lload_n hx hb dX2_become_0 rfl (lv_at hl 1 rfl) ?_
  refine lv_lload_n hx hb dX2_become_1 rfl (lv_at hl 2 rfl) ?_
  refine rd_calll (va_runS (As := [.long n, .long q]) (rest := []) ⟨hx, hb, hml, hown, hts⟩ (f_div l G g hg f n q  ) (my_cwS hts ok_X2_commonDivisor w_768 rfl rfl ⟨Nat.le_of_ble_eq_true rfl, Nat.le_of_ble_eq_true rfl⟩) ⟨bP.blind, fun U hU hW => ⟨rfl, by rw [hU]; exact hP, kG.warm hW hG⟩⟩ rfl rfl hl.1 rfl (lv_room (Nat.le_of_ble_eq_true rfl)) dX2_become_2 ⟨Nat.le_of_ble_eq_true rfl, Nat.le_of_ble_eq_true rfl⟩) (fun v1 _ => ?_)
  refine lv_lstore (lv' := [(5, .long v1), (0, .ref (g 6)), (1, .long n), (3, .long q)]) hx hb dX2_become_5 hl (by decide) rfl (fun ls hl => ?_)
  refine lv_lload_n hx hb dX2_become_7 rfl (lv_at hl 2 rfl) ?_
  refine lv_lconst (v := 0) hx hb dX2_become_8 (by decide) ?_
  refine W.lcmp hx hb dX2_become_9 ?_
  refine lv_if_le (tgt := 26) hx hb dX2_become_10 (by decide) (fun c_10 => ?_) (fun c_10 => ?_)
  · refine lv_aload_n hx hb dX2_become_26 rfl (lv_at hl 1 rfl) ?_
    refine lv_lconst (v := 0) hx hb dX2_become_27 (by decide) ?_
    refine va_put (D := G.1) (ci := 2) (v := .long 0) (ty := .long) (C := RX2) (T := TX2) (N := 2) hx hb hts inlX2 tyX2 tyX2_ok nmX2 hown hG.1 hP (wl_D hg f) hS 6 (wl_at (by decide) hfc6) rfl 0 (by decide) (hts (.fieldLink RX2 7 "SwornLists$Fraction" "above" "J") w_99) (fun _ h9 => h9) rfl (by decide +kernel) rfl rfl (Nat.le_of_ble_eq_true rfl) dX2_become_28 (fun H locs hP _ hS => ?_)
    obtain ⟨f_1, hP, e_1, o_1⟩ := b_put (by decide) hP
    have hfc6 : f_1 6 = eO 2 [.long 0, .long be] := e_1
    refine lv_aload_n hx hb dX2_become_31 rfl (lv_at hl 1 rfl) ?_
    refine lv_lconst (v := 1) hx hb dX2_become_32 (by decide) ?_
    refine va_put (D := G.1) (ci := 2) (v := .long 1) (ty := .long) (C := RX2) (T := TX2) (N := 2) hx hb hts inlX2 tyX2 tyX2_ok nmX2 hown hG.1 hP (wl_D hg f_1) hS 6 (wl_at (by decide) hfc6) rfl 1 (by decide) (hts (.fieldLink RX2 13 "SwornLists$Fraction" "below" "J") w_100) (fun _ h9 => h9) rfl (by decide +kernel) rfl rfl (Nat.le_of_ble_eq_true rfl) dX2_become_33 (fun H locs hP _ hS => ?_)
    obtain ⟨f_2, hP, e_2, o_2⟩ := b_put (by decide) hP
    have hfc6 : f_2 6 = eO 2 [.long 0, .long 1] := e_2
    refine lv_iconst (v := 0) hx hb dX2_become_36 (by decide) ?_
    exact W.iret (v := 0) hx hb hr (fun t ht hW => ⟨⟨_, f_2, rfl, (⟨0, 1, hfc6, fun j hj => ((o_2 j (by omega))).trans (o_1 j (by omega))⟩), by rw [ht]; exact hP⟩, hS.F ht⟩) hS.2.2 dX2_become_37
  · refine lv_lload_n hx hb dX2_become_13 rfl (lv_at hl 3 rfl) ?_
    refine lv_lconst (v := 0) hx hb dX2_become_14 (by decide) ?_
    refine W.lcmp hx hb dX2_become_15 ?_
    refine lv_if_le (tgt := 26) hx hb dX2_become_16 (by decide) (fun c_16 => ?_) (fun c_16 => ?_)
    · refine lv_aload_n hx hb dX2_become_26 rfl (lv_at hl 1 rfl) ?_
      refine lv_lconst (v := 0) hx hb dX2_become_27 (by decide) ?_
      refine va_put (D := G.1) (ci := 2) (v := .long 0) (ty := .long) (C := RX2) (T := TX2) (N := 2) hx hb hts inlX2 tyX2 tyX2_ok nmX2 hown hG.1 hP (wl_D hg f) hS 6 (wl_at (by decide) hfc6) rfl 0 (by decide) (hts (.fieldLink RX2 7 "SwornLists$Fraction" "above" "J") w_99) (fun _ h9 => h9) rfl (by decide +kernel) rfl rfl (Nat.le_of_ble_eq_true rfl) dX2_become_28 (fun H locs hP _ hS => ?_)
      obtain ⟨f_3, hP, e_3, o_3⟩ := b_put (by decide) hP
      have hfc6 : f_3 6 = eO 2 [.long 0, .long be] := e_3
      refine lv_aload_n hx hb dX2_become_31 rfl (lv_at hl 1 rfl) ?_
      refine lv_lconst (v := 1) hx hb dX2_become_32 (by decide) ?_
      refine va_put (D := G.1) (ci := 2) (v := .long 1) (ty := .long) (C := RX2) (T := TX2) (N := 2) hx hb hts inlX2 tyX2 tyX2_ok nmX2 hown hG.1 hP (wl_D hg f_3) hS 6 (wl_at (by decide) hfc6) rfl 1 (by decide) (hts (.fieldLink RX2 13 "SwornLists$Fraction" "below" "J") w_100) (fun _ h9 => h9) rfl (by decide +kernel) rfl rfl (Nat.le_of_ble_eq_true rfl) dX2_become_33 (fun H locs hP _ hS => ?_)
      obtain ⟨f_4, hP, e_4, o_4⟩ := b_put (by decide) hP
      have hfc6 : f_4 6 = eO 2 [.long 0, .long 1] := e_4
      refine lv_iconst (v := 0) hx hb dX2_become_36 (by decide) ?_
      exact W.iret (v := 0) hx hb hr (fun t ht hW => ⟨⟨_, f_4, rfl, (⟨0, 1, hfc6, fun j hj => ((o_4 j (by omega))).trans (o_3 j (by omega))⟩), by rw [ht]; exact hP⟩, hS.F ht⟩) hS.2.2 dX2_become_37
    · refine lv_lload hx hb dX2_become_19 (lv_at hl 0 rfl) ?_
      refine lv_lconst (v := 0) hx hb dX2_become_21 (by decide) ?_
      refine W.lcmp hx hb dX2_become_22 ?_
      refine lv_if_gt (tgt := 38) hx hb dX2_become_23 (by decide) (fun c_23 => ?_) (fun c_23 => ?_)
      · refine lv_aload_n hx hb dX2_become_38 rfl (lv_at hl 1 rfl) ?_
        refine lv_lload_n hx hb dX2_become_39 rfl (lv_at hl 2 rfl) ?_
        refine lv_lload hx hb dX2_become_40 (lv_at hl 0 rfl) ?_
        refine lv_ldiv hx hb dX2_become_42 (fun z => by rw [z, (lg_cmp_eq _ _).mpr rfl] at c_23; exact absurd c_23 (by decide)) ?_
        refine va_put (D := G.1) (ci := 2) (v := .long (n / v1)) (ty := .long) (C := RX2) (T := TX2) (N := 2) hx hb hts inlX2 tyX2 tyX2_ok nmX2 hown hG.1 hP (wl_D hg f) hS 6 (wl_at (by decide) hfc6) rfl 0 (by decide) (hts (.fieldLink RX2 7 "SwornLists$Fraction" "above" "J") w_99) (fun _ h9 => h9) rfl (by decide +kernel) rfl rfl (Nat.le_of_ble_eq_true rfl) dX2_become_43 (fun H locs hP _ hS => ?_)
        obtain ⟨f_5, hP, e_5, o_5⟩ := b_put (by decide) hP
        have hfc6 : f_5 6 = eO 2 [.long (n / v1), .long be] := e_5
        refine lv_aload_n hx hb dX2_become_46 rfl (lv_at hl 1 rfl) ?_
        refine lv_lload_n hx hb dX2_become_47 rfl (lv_at hl 3 rfl) ?_
        refine lv_lload hx hb dX2_become_48 (lv_at hl 0 rfl) ?_
        refine lv_ldiv hx hb dX2_become_50 (fun z => by rw [z, (lg_cmp_eq _ _).mpr rfl] at c_23; exact absurd c_23 (by decide)) ?_
        refine va_put (D := G.1) (ci := 2) (v := .long (q / v1)) (ty := .long) (C := RX2) (T := TX2) (N := 2) hx hb hts inlX2 tyX2 tyX2_ok nmX2 hown hG.1 hP (wl_D hg f_5) hS 6 (wl_at (by decide) hfc6) rfl 1 (by decide) (hts (.fieldLink RX2 13 "SwornLists$Fraction" "below" "J") w_100) (fun _ h9 => h9) rfl (by decide +kernel) rfl rfl (Nat.le_of_ble_eq_true rfl) dX2_become_51 (fun H locs hP _ hS => ?_)
        obtain ⟨f_6, hP, e_6, o_6⟩ := b_put (by decide) hP
        have hfc6 : f_6 6 = eO 2 [.long (n / v1), .long (q / v1)] := e_6
        refine lv_iconst (v := 1) hx hb dX2_become_54 (by decide) ?_
        exact W.iret (v := 1) hx hb hr (fun t ht hW => ⟨⟨_, f_6, rfl, (⟨(n / v1), (q / v1), hfc6, fun j hj => ((o_6 j (by omega))).trans (o_5 j (by omega))⟩), by rw [ht]; exact hP⟩, hS.F ht⟩) hS.2.2 dX2_become_55
      · refine lv_aload_n hx hb dX2_become_26 rfl (lv_at hl 1 rfl) ?_
        refine lv_lconst (v := 0) hx hb dX2_become_27 (by decide) ?_
        refine va_put (D := G.1) (ci := 2) (v := .long 0) (ty := .long) (C := RX2) (T := TX2) (N := 2) hx hb hts inlX2 tyX2 tyX2_ok nmX2 hown hG.1 hP (wl_D hg f) hS 6 (wl_at (by decide) hfc6) rfl 0 (by decide) (hts (.fieldLink RX2 7 "SwornLists$Fraction" "above" "J") w_99) (fun _ h9 => h9) rfl (by decide +kernel) rfl rfl (Nat.le_of_ble_eq_true rfl) dX2_become_28 (fun H locs hP _ hS => ?_)
        obtain ⟨f_7, hP, e_7, o_7⟩ := b_put (by decide) hP
        have hfc6 : f_7 6 = eO 2 [.long 0, .long be] := e_7
        refine lv_aload_n hx hb dX2_become_31 rfl (lv_at hl 1 rfl) ?_
        refine lv_lconst (v := 1) hx hb dX2_become_32 (by decide) ?_
        refine va_put (D := G.1) (ci := 2) (v := .long 1) (ty := .long) (C := RX2) (T := TX2) (N := 2) hx hb hts inlX2 tyX2 tyX2_ok nmX2 hown hG.1 hP (wl_D hg f_7) hS 6 (wl_at (by decide) hfc6) rfl 1 (by decide) (hts (.fieldLink RX2 13 "SwornLists$Fraction" "below" "J") w_100) (fun _ h9 => h9) rfl (by decide +kernel) rfl rfl (Nat.le_of_ble_eq_true rfl) dX2_become_33 (fun H locs hP _ hS => ?_)
        obtain ⟨f_8, hP, e_8, o_8⟩ := b_put (by decide) hP
        have hfc6 : f_8 6 = eO 2 [.long 0, .long 1] := e_8
        refine lv_iconst (v := 0) hx hb dX2_become_36 (by decide) ?_
        exact W.iret (v := 0) hx hb hr (fun t ht hW => ⟨⟨_, f_8, rfl, (⟨0, 1, hfc6, fun j hj => ((o_8 j (by omega))).trans (o_7 j (by omega))⟩), by rw [ht]; exact hP⟩, hS.F ht⟩) hS.2.2 dX2_become_37
set_option maxHeartbeats 4000000 in
set_option maxRecDepth 100000 in
theorem s_ways (l : Launch) (G : gW) (g : Nat → Nat) (hg : gOK g) (f : Nat → va_E) (n : Int32) (q : Int32)  (hn2 : n.toInt < 2147483647) : Met l yX10_ways (wsT yX10_ways cX10_ways 5 (some .long)) ({ frames := 0, cells := 0, slots := 0, locals := 0 }) (bP G g f [.int n, .int q]) (rQl (fun z9 => True)) 0 0 fr0 := by
  refine Met.ofW (cc := cX10_ways) (maxL := 5) (ret := (some .long)) (by decide) rfl ?_
  intro p e s m args below meth c s₁ B hml hv
  obtain ⟨rfl, hP, hG⟩ := hv
  have hx := B.exec
  have hb := B.bytes
  have hr := B.returns
  have hts := my_hts (atoms_spec (ws := wsT yX10_ways cX10_ways 5 (some .long)) B.pre)
  have hown : s.vm.findClass RX10 = some m.cls := findClass_of_methodNamed B.named
  have hlocks := B.notSynchronized
  have hl := lv_entry ([.int n, .int q]) (n := 5) (Nat.le_of_ble_eq_true rfl)
  rw [lg_entry_eq]
  generalize (lg_sl ([.int n, .int q]) ++ List.replicate (5 - (lg_sl ([.int n, .int q])).length) Slot.unset).toArray = ls at hl ⊢
  have hl : lv_has ls 5 [(0, .int n), (1, .int q)] := hl
  refine lv_iload_n hx hb dX10_ways_0 rfl (lv_at hl 1 rfl) ?_
  refine lv_if_lt (tgt := 9) hx hb dX10_ways_1 (by decide) (fun c_1 => ?_) (fun c_1 => ?_)
  · refine lv_lconst (v := 0) hx hb dX10_ways_9 (by decide) ?_
    exact W.lret (v := 0) hx hb hr (fun t ht hW => ⟨_, rfl, (trivial), ht⟩) (fun _ h => absurd h List.not_mem_nil) dX10_ways_10
  · refine lv_iload_n hx hb dX10_ways_4 rfl (lv_at hl 1 rfl) ?_
    refine lv_iload_n hx hb dX10_ways_5 rfl (lv_at hl 0 rfl) ?_
    refine lv_icmp_le (tgt := 11) hx hb dX10_ways_6 (by decide) (fun c_6 => ?_) (fun c_6 => ?_)
    · have hqn := Int32.le_iff_toInt_le.mp c_6
      refine lv_lconst (v := 1) hx hb dX10_ways_11 (by decide) ?_
      refine lv_lstore_n (lv' := [(2, .long 1), (0, .int n), (1, .int q)]) hx hb dX10_ways_12 rfl hl (by decide) rfl (fun ls hl => ?_)
      refine lv_iconst (v := 1) hx hb dX10_ways_13 (by decide) ?_
      refine lv_istore (lv' := [(4, .int 1), (2, .long 1), (0, .int n), (1, .int q)]) hx hb dX10_ways_14 hl (by decide) rfl (fun ls hl => ?_)
      have key1 : ∀ (n9_1 : Nat) (i : Nat) (u : Int64) (ls : Array Slot), (1 ≤ i) → (i ≤ 2147483647) → 2147483648 - i < n9_1 → lv_has ls 5 [(0, .int n), (1, .int q), (2, .long u), (4, .int (nI i))] → W p l e (headSpec (wsT yX10_ways cX10_ways 5 (some .long)) ({ frames := 0, cells := 0, slots := 0, locals := 0 })).room s m ([.int n, .int q] : List Value).toArray below meth c s.heap [] 0 0 (MQ below (rQl (fun z9 => True)) ([.int n, .int q] : List Value).toArray s 0 0 fr0) (F0 m 16 ls []) := by
        intro n9_1
        induction n9_1 with
        | zero => intro i u ls h1 h2 hn9_1; exact absurd hn9_1 (Nat.not_lt_zero _)
        | succ n9_1 ih_1 =>
          intro i u ls h1 h2 hn9_1 hl
          refine lv_iload hx hb dX10_ways_16 (lv_at hl 3 rfl) ?_
          refine lv_iload_n hx hb dX10_ways_18 rfl (lv_at hl 1 rfl) ?_
          refine lv_icmp_gt (tgt := 42) hx hb dX10_ways_19 (by decide) (fun c_19 => ?_) (fun c_19 => ?_)
          · refine lv_lload_n hx hb dX10_ways_42 rfl (lv_at hl 2 rfl) ?_
            exact W.lret (v := u) hx hb hr (fun t ht hW => ⟨_, rfl, (trivial), ht⟩) (fun _ h => absurd h List.not_mem_nil) dX10_ways_43
          · have hle := le_i32 (by omega) c_19
            refine lv_lload_n hx hb dX10_ways_22 rfl (lv_at hl 2 rfl) ?_
            refine lv_iload_n hx hb dX10_ways_23 rfl (lv_at hl 0 rfl) ?_
            refine lv_iload_n hx hb dX10_ways_24 rfl (lv_at hl 1 rfl) ?_
            refine lv_isub hx hb dX10_ways_25 ?_
            refine lv_iload hx hb dX10_ways_26 (lv_at hl 3 rfl) ?_
            refine lv_iadd hx hb dX10_ways_28 ?_
            refine lv_i2l hx hb dX10_ways_29 rfl ?_
            refine lv_lmul hx hb dX10_ways_30 ?_
            refine lv_iload hx hb dX10_ways_31 (lv_at hl 3 rfl) ?_
            refine lv_i2l hx hb dX10_ways_33 rfl ?_
            refine lv_ldiv hx hb dX10_ways_34 (i2l_ne (by omega) (by omega)) ?_
            refine lv_lstore_n (lv' := [(2, .long ((u * (Int32.toInt64 ((n - q) + (nI i)))) / (Int32.toInt64 (nI i)))), (0, .int n), (1, .int q), (4, .int (nI i))]) hx hb dX10_ways_35 rfl hl (by decide) rfl (fun ls hl => ?_)
            refine lv_iinc (v := nI (i + 1)) (lv' := [(4, .int (nI (i + 1))), (2, .long ((u * (Int32.toInt64 ((n - q) + (nI i)))) / (Int32.toInt64 (nI i)))), (0, .int n), (1, .int q)]) hx hb dX10_ways_36 hl (k := 3) rfl (nI_1 i) (by decide) rfl (fun ls hl => ?_)
            refine lv_goto (tgt := 16) hx hb dX10_ways_39 (by decide) ?_
            exact ih_1 (i + 1) ((u * (Int32.toInt64 ((n - q) + (nI i)))) / (Int32.toInt64 (nI i))) _ (by omega) (by omega) (by omega) (lv_sub hl [2, 3, 1, 0] rfl)
      exact key1 (2147483648 + 1) 1 1 _ (by omega) (by omega) (by omega) (lv_sub hl [2, 3, 1, 0] rfl)
    · refine lv_lconst (v := 0) hx hb dX10_ways_9 (by decide) ?_
      exact W.lret (v := 0) hx hb hr (fun t ht hW => ⟨_, rfl, (trivial), ht⟩) (fun _ h => absurd h List.not_mem_nil) dX10_ways_10
