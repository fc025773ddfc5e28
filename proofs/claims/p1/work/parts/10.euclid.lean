set_option maxHeartbeats 4000000 in
set_option maxRecDepth 100000 in
theorem c_cdv (l : Launch) (G : gW) (S : Nat) (T : Nat) (hSb : S < 2 ^ 63) (hTb : T < 2 ^ 63) : Met l yX2_commonDivisor (wsT yX2_commonDivisor cX2_commonDivisor 11 (some .long)) ({ frames := 0, cells := 0, slots := 0, locals := 0 }) (rP G [.long (lN S), .long (lN T)] []) (rQl (fun r => r = lN (cdv 200 S T))) 0 0 fr0 := by
  refine Met.ofW (cc := cX2_commonDivisor) (maxL := 11) (ret := (some .long)) (by decide) rfl ?_
  intro p e s m args below meth c s₁ B hml hv
  obtain ⟨rfl, hP, hG⟩ := hv
  have hx := B.exec
  have hb := B.bytes
  have hr := B.returns
  have hts := my_hts (atoms_spec (ws := wsT yX2_commonDivisor cX2_commonDivisor 11 (some .long)) B.pre)
  have hown : s.vm.findClass RX2 = some m.cls := findClass_of_methodNamed B.named
  have hlocks := B.notSynchronized
  have hP : va_P G.1 vwCl [] s.heap := hP
  have hl := lv_entry ([.long (lN S), .long (lN T)]) (n := 11) (Nat.le_of_ble_eq_true rfl)
  rw [lg_entry_eq]
  generalize (lg_sl ([.long (lN S), .long (lN T)]) ++ List.replicate (11 - (lg_sl ([.long (lN S), .long (lN T)])).length) Slot.unset).toArray = ls at hl ⊢
  have hl : lv_has ls 11 [(0, .long (lN S)), (2, .long (lN T))] := hl
  refine lv_lload_n hx hb dX2_commonDivisor_0 rfl (lv_at hl 0 rfl) ?_
  refine lv_lstore (lv' := [(4, .long (lN S)), (0, .long (lN S)), (2, .long (lN T))]) hx hb dX2_commonDivisor_1 hl (by decide) rfl (fun ls hl => ?_)
  refine lv_lload_n hx hb dX2_commonDivisor_3 rfl (lv_at hl 2 rfl) ?_
  refine lv_lstore (lv' := [(6, .long (lN T)), (4, .long (lN S)), (0, .long (lN S)), (2, .long (lN T))]) hx hb dX2_commonDivisor_4 hl (by decide) rfl (fun ls hl => ?_)
  refine lv_iconst (v := 0) hx hb dX2_commonDivisor_6 (by decide) ?_
  refine lv_istore (lv' := [(8, .int 0), (6, .long (lN T)), (4, .long (lN S)), (0, .long (lN S)), (2, .long (lN T))]) hx hb dX2_commonDivisor_7 hl (by decide) rfl (fun ls hl => ?_)
  have key : ∀ (n : Nat) (x : Nat) (y : Nat) (k : Nat) (ls : Array Slot), x < 2 ^ 63 → y < 2 ^ 63 → k ≤ 200 → cdv (200 - k) x y = cdv 200 S T → 200 - k < n → lv_has ls 11 [(4, .long (lN x)), (6, .long (lN y)), (8, .int (nI k))] → W p l e (headSpec (wsT yX2_commonDivisor cX2_commonDivisor 11 (some .long)) ({ frames := 0, cells := 0, slots := 0, locals := 0 })).room s m ([.long (lN S), .long (lN T)] : List Value).toArray below meth c s.heap [] 0 0 (MQ below (rQl (fun r => r = lN (cdv 200 S T))) ([.long (lN S), .long (lN T)] : List Value).toArray s 0 0 fr0) (F0 m 9 ls []) := by
    intro n
    induction n with
    | zero => intro x y k ls hxb hyb hk hv hn; exact absurd hn (Nat.not_lt_zero _)
    | succ n ih =>
      intro x y k ls hxb hyb hk hv hn hl
      refine lv_iload hx hb dX2_commonDivisor_9 (lv_at hl 2 rfl) ?_
      refine lv_sipush (v := 200) hx hb dX2_commonDivisor_11 (by decide) ?_
      refine lv_icmp_ge (tgt := 45) hx hb dX2_commonDivisor_14 (by decide) (fun c_14 => ?_) (fun c_14 => ?_)
      · refine lv_lload hx hb dX2_commonDivisor_45 (lv_at hl 0 rfl) ?_
        exact W.lret (v := lN x) hx hb hr (fun t ht hW => ⟨_, rfl, (by
      have h : 200 ≤ k := (nI_leI (a := 200) (by omega) (by omega)).mp c_14
      rw [← hv, show 200 - k = 0 by omega]; rfl), ht⟩) (fun _ h => absurd h List.not_mem_nil) dX2_commonDivisor_47
      · have hk2 : k < 200 := by
          have h : ¬ 200 ≤ k := fun z => c_14 (nI_le (a := 200) z (by omega))
          omega
        refine lv_lload hx hb dX2_commonDivisor_17 (lv_at hl 1 rfl) ?_
        refine lv_lconst (v := 0) hx hb dX2_commonDivisor_19 (by decide) ?_
        refine W.lcmp hx hb dX2_commonDivisor_20 ?_
        refine lv_if_eq (tgt := 45) hx hb dX2_commonDivisor_21 (by decide) (fun c_21 => ?_) (fun c_21 => ?_)
        · refine lv_lload hx hb dX2_commonDivisor_45 (lv_at hl 0 rfl) ?_
          exact W.lret (v := lN x) hx hb hr (fun t ht hW => ⟨_, rfl, (by
      have h : y = 0 := (lcz hyb).mp c_21
      subst h
      rw [← hv, cdv_0]), ht⟩) (fun _ h => absurd h List.not_mem_nil) dX2_commonDivisor_47
        · have hy0 : 0 < y := by
            have h : ¬ y = 0 := fun z => c_21 ((lcz hyb).mpr z)
            omega
          refine lv_lload hx hb dX2_commonDivisor_24 (lv_at hl 0 rfl) ?_
          refine lv_lload hx hb dX2_commonDivisor_26 (lv_at hl 1 rfl) ?_
          refine lv_lrem hx hb dX2_commonDivisor_28 (lN_ne0 hy0 hyb) ?_
          refine my_bel (v := lN (x % y)) (pk_lRem hxb hy0 hyb) ?_
          refine lv_lstore (lv' := [(9, .long (lN (x % y))), (4, .long (lN x)), (6, .long (lN y)), (8, .int (nI k))]) hx hb dX2_commonDivisor_29 hl (by decide) rfl (fun ls hl => ?_)
          refine lv_lload hx hb dX2_commonDivisor_31 (lv_at hl 2 rfl) ?_
          refine lv_lstore (lv' := [(4, .long (lN y)), (9, .long (lN (x % y))), (6, .long (lN y)), (8, .int (nI k))]) hx hb dX2_commonDivisor_33 hl (by decide) rfl (fun ls hl => ?_)
          refine lv_lload hx hb dX2_commonDivisor_35 (lv_at hl 1 rfl) ?_
          refine lv_lstore (lv' := [(6, .long (lN (x % y))), (4, .long (lN y)), (9, .long (lN (x % y))), (8, .int (nI k))]) hx hb dX2_commonDivisor_37 hl (by decide) rfl (fun ls hl => ?_)
          refine lv_iinc (v := nI (k + 1)) (lv' := [(8, .int (nI (k + 1))), (6, .long (lN (x % y))), (4, .long (lN y)), (9, .long (lN (x % y)))]) hx hb dX2_commonDivisor_39 hl (k := 3) rfl (nI_1 k) (by decide) rfl (fun ls hl => ?_)
          refine lv_goto (tgt := 9) hx hb dX2_commonDivisor_42 (by decide) ?_
          exact ih y (x % y) (k + 1) _ (hyb) (Nat.lt_trans (Nat.mod_lt _ hy0) hyb) (by omega) (by rw [← hv, show 200 - k = (200 - (k + 1)) + 1 by omega, cdv_s hy0]) (by omega) (lv_sub hl [2, 1, 0] rfl)
  exact key (200 + 1) S T 0 _ (hSb) (hTb) (Nat.zero_le _) (rfl) (by omega) (lv_sub hl [2, 1, 0] rfl)
set_option maxHeartbeats 4000000 in
set_option maxRecDepth 100000 in
theorem c_become (l : Launch) (G : gW) (sz : Nat) (a : Nat) (S : Nat) (T : Nat) (hSb : S < 2 ^ 63) (hTb : T < 2 ^ 63) (hT0 : 0 < T) : Met l yX2_become (wsT yX2_become cX2_become 7 (some .int)) ({ frames := 1, cells := 0, slots := 0, locals := 30 }) (wP G [.ref a, .long (lN S), .long (lN T)] sz [(a, eO 2 [.long 0, .long 1])]) (va_Qi (fun (r : Int32) (_ : Unit) => r = if S = 0 then 0 else 1) (fun _ _ => True) (va_A [(a, eO 2 [.long 0, .long 1])] sz)) 0 0 (va_A [(a, eO 2 [.long 0, .long 1])] sz) := by
  refine Met.ofW (cc := cX2_become) (maxL := 7) (ret := (some .int)) (by decide) rfl ?_
  intro p e s m args below meth c s₁ B hml hv
  obtain ⟨rfl, hsz, hP, hG, hD0⟩ := hv
  have hx := B.exec
  have hb := B.bytes
  have hr := B.returns
  have hts := my_hts (atoms_spec (ws := wsT yX2_become cX2_become 7 (some .int)) B.pre)
  have hown : s.vm.findClass RX2 = some m.cls := findClass_of_methodNamed B.named
  have hlocks := B.notSynchronized
  subst hsz
  have hD := hD0.self (sz := s.heap.size)
  generalize hAe : va_A [(a, eO 2 [.long 0, .long 1])] s.heap.size = A at hD ⊢
  have hA : ∀ q : Nat, s.heap.size ≤ q → A q := fun q h => by rw [← hAe]; exact Or.inr h
  have hS : va_S A s.heap s.heap [] := va_S.rf
  have hP : va_P G.1 vwCl [(a, eO 2 [.long 0, .long 1])] s.heap := hP
  have hl := lv_entry ([.ref a, .long (lN S), .long (lN T)]) (n := 7) (Nat.le_of_ble_eq_true rfl)
  rw [lg_entry_eq]
  generalize (lg_sl ([.ref a, .long (lN S), .long (lN T)]) ++ List.replicate (7 - (lg_sl ([.ref a, .long (lN S), .long (lN T)])).length) Slot.unset).toArray = ls at hl ⊢
  have hl : lv_has ls 7 [(0, .ref a), (1, .long (lN S)), (3, .long (lN T))] := hl
  refine lv_lload_n hx hb dX2_become_0 rfl (lv_at hl 1 rfl) ?_
  refine lv_lload_n hx hb dX2_become_1 rfl (lv_at hl 2 rfl) ?_
  have hPc := hP.sub (ws' := []) [] rfl
  refine rd_calll (va_runS (As := [.long (lN S), .long (lN T)]) (rest := []) ⟨hx, hb, hml, hown, hts⟩ (c_cdv l G S T (by omega) (by omega)) (my_cwS hts ok_X2_commonDivisor w_768 rfl rfl ⟨Nat.le_of_ble_eq_true rfl, Nat.le_of_ble_eq_true rfl⟩) ⟨rP.blind, fun U hU hW => ⟨rfl, by rw [hU]; exact hPc, kG.warm hW hG⟩⟩ rfl rfl hl.1 rfl (lv_room (Nat.le_of_ble_eq_true rfl)) dX2_become_2 ⟨Nat.le_of_ble_eq_true rfl, Nat.le_of_ble_eq_true rfl⟩) (fun r hr9 => ?_)
  subst hr9
  refine lv_lstore (lv' := [(5, .long (lN (cdv 200 S T))), (0, .ref a), (1, .long (lN S)), (3, .long (lN T))]) hx hb dX2_become_5 hl (by decide) rfl (fun ls hl => ?_)
  refine lv_lload_n hx hb dX2_become_7 rfl (lv_at hl 2 rfl) ?_
  refine lv_lconst (v := 0) hx hb dX2_become_8 (by decide) ?_
  refine W.lcmp hx hb dX2_become_9 ?_
  have hgb : cdv 200 S T < 2 ^ 63 := cdv_b _ _ _ _ hSb hTb
  refine lv_if_le (tgt := 26) hx hb dX2_become_10 (by decide) (fun c_10 => ?_) (fun c_10 => ?_)
  · refine lv_aload_n hx hb dX2_become_26 rfl (lv_at hl 1 rfl) ?_
    refine lv_lconst (v := 0) hx hb dX2_become_27 (by decide) ?_
    refine va_put (D := G.1) (ci := 2) (v := .long 0) (ty := .long) (C := RX2) (T := TX2) (N := 2) hx hb hts inlX2 tyX2 tyX2_ok nmX2 hown hG.1 hP hD hS 0 rfl rfl 0 (by decide) (hts (.fieldLink RX2 7 "SwornLists$Fraction" "above" "J") w_99) (fun _ h9 => h9) rfl (by decide +kernel) rfl rfl (Nat.le_of_ble_eq_true rfl) dX2_become_28 (fun H locs hP hD hS => ?_)
    have hP : va_P G.1 vwCl [(a, eO 2 [.long 0, .long 1])] H := hP
    have hD : va_D A [(a, eO 2 [.long 0, .long 1])] := hD
    refine lv_aload_n hx hb dX2_become_31 rfl (lv_at hl 1 rfl) ?_
    refine lv_lconst (v := 1) hx hb dX2_become_32 (by decide) ?_
    refine va_put (D := G.1) (ci := 2) (v := .long 1) (ty := .long) (C := RX2) (T := TX2) (N := 2) hx hb hts inlX2 tyX2 tyX2_ok nmX2 hown hG.1 hP hD hS 0 rfl rfl 1 (by decide) (hts (.fieldLink RX2 13 "SwornLists$Fraction" "below" "J") w_100) (fun _ h9 => h9) rfl (by decide +kernel) rfl rfl (Nat.le_of_ble_eq_true rfl) dX2_become_33 (fun H locs hP hD hS => ?_)
    have hP : va_P G.1 vwCl [(a, eO 2 [.long 0, .long 1])] H := hP
    have hD : va_D A [(a, eO 2 [.long 0, .long 1])] := hD
    refine lv_iconst (v := 0) hx hb dX2_become_36 (by decide) ?_
    exact W.iret (v := 0) hx hb hr (fun t ht hW => ⟨⟨_, (), rfl, (by rw [if_pos ((lcl hSb).mp c_10)]), trivial⟩, hS.F ht⟩) hS.2.2 dX2_become_37
  · refine lv_lload_n hx hb dX2_become_13 rfl (lv_at hl 3 rfl) ?_
    refine lv_lconst (v := 0) hx hb dX2_become_14 (by decide) ?_
    refine W.lcmp hx hb dX2_become_15 ?_
    refine lv_if_le (tgt := 26) hx hb dX2_become_16 (by decide) (fun c_16 => absurd c_16 (fun z => absurd ((lcl hTb).mp z) (by omega))) (fun c_16 => ?_)
    have hS0 : 0 < S := by
      have h : ¬ S = 0 := fun z => c_10 ((lcl hSb).mpr z)
      omega
    have hg0 : 0 < cdv 200 S T := cdv_p _ _ _ hS0
    refine lv_lload hx hb dX2_become_19 (lv_at hl 0 rfl) ?_
    refine lv_lconst (v := 0) hx hb dX2_become_21 (by decide) ?_
    refine W.lcmp hx hb dX2_become_22 ?_
    refine lv_if_gt (tgt := 38) hx hb dX2_become_23 (by decide) (fun c_23 => ?_) (fun c_23 => absurd ((lcg hgb).mpr hg0) c_23)
    refine lv_aload_n hx hb dX2_become_38 rfl (lv_at hl 1 rfl) ?_
    refine lv_lload_n hx hb dX2_become_39 rfl (lv_at hl 2 rfl) ?_
    refine lv_lload hx hb dX2_become_40 (lv_at hl 0 rfl) ?_
    refine lv_ldiv hx hb dX2_become_42 (lN_ne0 hg0 hgb) ?_
    refine va_put (D := G.1) (ci := 2) (v := .long ((lN S) / (lN (cdv 200 S T)))) (ty := .long) (C := RX2) (T := TX2) (N := 2) hx hb hts inlX2 tyX2 tyX2_ok nmX2 hown hG.1 hP hD hS 0 rfl rfl 0 (by decide) (hts (.fieldLink RX2 7 "SwornLists$Fraction" "above" "J") w_99) (fun _ h9 => h9) rfl (by decide +kernel) rfl rfl (Nat.le_of_ble_eq_true rfl) dX2_become_43 (fun H locs hP hD hS => ?_)
    have hP : va_P G.1 vwCl [(a, eO 2 [.long ((lN S) / (lN (cdv 200 S T))), .long 1])] H := hP
    have hD : va_D A [(a, eO 2 [.long ((lN S) / (lN (cdv 200 S T))), .long 1])] := hD
    refine lv_aload_n hx hb dX2_become_46 rfl (lv_at hl 1 rfl) ?_
    refine lv_lload_n hx hb dX2_become_47 rfl (lv_at hl 3 rfl) ?_
    refine lv_lload hx hb dX2_become_48 (lv_at hl 0 rfl) ?_
    refine lv_ldiv hx hb dX2_become_50 (lN_ne0 hg0 hgb) ?_
    refine va_put (D := G.1) (ci := 2) (v := .long ((lN T) / (lN (cdv 200 S T)))) (ty := .long) (C := RX2) (T := TX2) (N := 2) hx hb hts inlX2 tyX2 tyX2_ok nmX2 hown hG.1 hP hD hS 0 rfl rfl 1 (by decide) (hts (.fieldLink RX2 13 "SwornLists$Fraction" "below" "J") w_100) (fun _ h9 => h9) rfl (by decide +kernel) rfl rfl (Nat.le_of_ble_eq_true rfl) dX2_become_51 (fun H locs hP hD hS => ?_)
    have hP : va_P G.1 vwCl [(a, eO 2 [.long ((lN S) / (lN (cdv 200 S T))), .long ((lN T) / (lN (cdv 200 S T)))])] H := hP
    have hD : va_D A [(a, eO 2 [.long ((lN S) / (lN (cdv 200 S T))), .long ((lN T) / (lN (cdv 200 S T)))])] := hD
    refine lv_iconst (v := 1) hx hb dX2_become_54 (by decide) ?_
    exact W.iret (v := 1) hx hb hr (fun t ht hW => ⟨⟨_, (), rfl, (by rw [if_neg (by omega)]), trivial⟩, hS.F ht⟩) hS.2.2 dX2_become_55
set_option maxHeartbeats 4000000 in
set_option maxRecDepth 100000 in
theorem c_gcd (l : Launch) (G : gW) (S : Nat) (T : Nat) (hSb : S < 2 ^ 63) (hTb : T < 2 ^ 63) : Met l yX11_divisor (wsT yX11_divisor cX11_divisor 10 (some .long)) ({ frames := 0, cells := 0, slots := 0, locals := 0 }) (rP G [.long (lN S), .long (lN T)] []) (rQl (fun r => r = lN (Nat.gcd S T))) 0 0 fr0 := by
  refine Met.ofW (cc := cX11_divisor) (maxL := 10) (ret := (some .long)) (by decide) rfl ?_
  intro p e s m args below meth c s₁ B hml hv
  obtain ⟨rfl, hP, hG⟩ := hv
  have hx := B.exec
  have hb := B.bytes
  have hr := B.returns
  have hts := my_hts (atoms_spec (ws := wsT yX11_divisor cX11_divisor 10 (some .long)) B.pre)
  have hown : s.vm.findClass RX11 = some m.cls := findClass_of_methodNamed B.named
  have hlocks := B.notSynchronized
  have hP : va_P G.1 vwCl [] s.heap := hP
  have hl := lv_entry ([.long (lN S), .long (lN T)]) (n := 10) (Nat.le_of_ble_eq_true rfl)
  rw [lg_entry_eq]
  generalize (lg_sl ([.long (lN S), .long (lN T)]) ++ List.replicate (10 - (lg_sl ([.long (lN S), .long (lN T)])).length) Slot.unset).toArray = ls at hl ⊢
  have hl : lv_has ls 10 [(0, .long (lN S)), (2, .long (lN T))] := hl
  refine lv_lload_n hx hb dX11_divisor_0 rfl (lv_at hl 0 rfl) ?_
  refine lv_lstore (lv' := [(4, .long (lN S)), (0, .long (lN S)), (2, .long (lN T))]) hx hb dX11_divisor_1 hl (by decide) rfl (fun ls hl => ?_)
  refine lv_lload_n hx hb dX11_divisor_3 rfl (lv_at hl 2 rfl) ?_
  refine lv_lstore (lv' := [(6, .long (lN T)), (4, .long (lN S)), (0, .long (lN S)), (2, .long (lN T))]) hx hb dX11_divisor_4 hl (by decide) rfl (fun ls hl => ?_)
  have key : ∀ (n : Nat) (x : Nat) (y : Nat) (ls : Array Slot), x < 2 ^ 63 → y < 2 ^ 63 → Nat.gcd x y = Nat.gcd S T → y < n → lv_has ls 10 [(4, .long (lN x)), (6, .long (lN y))] → W p l e (headSpec (wsT yX11_divisor cX11_divisor 10 (some .long)) ({ frames := 0, cells := 0, slots := 0, locals := 0 })).room s m ([.long (lN S), .long (lN T)] : List Value).toArray below meth c s.heap [] 0 0 (MQ below (rQl (fun r => r = lN (Nat.gcd S T))) ([.long (lN S), .long (lN T)] : List Value).toArray s 0 0 fr0) (F0 m 6 ls []) := by
    intro n
    induction n with
    | zero => intro x y ls hxb hyb hv hn; exact absurd hn (Nat.not_lt_zero _)
    | succ n ih =>
      intro x y ls hxb hyb hv hn hl
      refine lv_lload hx hb dX11_divisor_6 (lv_at hl 1 rfl) ?_
      refine lv_lconst (v := 0) hx hb dX11_divisor_8 (by decide) ?_
      refine W.lcmp hx hb dX11_divisor_9 ?_
      refine lv_if_eq (tgt := 31) hx hb dX11_divisor_10 (by decide) (fun c_10 => ?_) (fun c_10 => ?_)
      · refine lv_lload hx hb dX11_divisor_31 (lv_at hl 0 rfl) ?_
        exact W.lret (v := lN x) hx hb hr (fun t ht hW => ⟨_, rfl, (by
      have h : y = 0 := (lcz hyb).mp c_10
      subst h
      rw [← hv, Nat.gcd_zero_right]), ht⟩) (fun _ h => absurd h List.not_mem_nil) dX11_divisor_33
      · have hy0 : 0 < y := by
          have h : ¬ y = 0 := fun z => c_10 ((lcz hyb).mpr z)
          omega
        refine lv_lload hx hb dX11_divisor_13 (lv_at hl 0 rfl) ?_
        refine lv_lload hx hb dX11_divisor_15 (lv_at hl 1 rfl) ?_
        refine lv_lrem hx hb dX11_divisor_17 (lN_ne0 hy0 hyb) ?_
        refine my_bel (v := lN (x % y)) (pk_lRem hxb hy0 hyb) ?_
        refine lv_lstore (lv' := [(8, .long (lN (x % y))), (4, .long (lN x)), (6, .long (lN y))]) hx hb dX11_divisor_18 hl (by decide) rfl (fun ls hl => ?_)
        refine lv_lload hx hb dX11_divisor_20 (lv_at hl 2 rfl) ?_
        refine lv_lstore (lv' := [(4, .long (lN y)), (8, .long (lN (x % y))), (6, .long (lN y))]) hx hb dX11_divisor_22 hl (by decide) rfl (fun ls hl => ?_)
        refine lv_lload hx hb dX11_divisor_24 (lv_at hl 1 rfl) ?_
        refine lv_lstore (lv' := [(6, .long (lN (x % y))), (4, .long (lN y)), (8, .long (lN (x % y)))]) hx hb dX11_divisor_26 hl (by decide) rfl (fun ls hl => ?_)
        refine lv_goto (tgt := 6) hx hb dX11_divisor_28 (by decide) ?_
        exact ih y (x % y) _ (hyb) (Nat.lt_trans (Nat.mod_lt _ hy0) hyb) (by rw [← hv, Nat.gcd_comm x y, Nat.gcd_rec y x, Nat.gcd_comm]) (by have := Nat.mod_lt x hy0; omega) (lv_sub hl [1, 0] rfl)
  exact key (T + 1) S T _ (hSb) (hTb) (rfl) (by omega) (lv_sub hl [1, 0] rfl)
set_option maxHeartbeats 4000000 in
set_option maxRecDepth 100000 in
theorem c_told (l : Launch) (G : gW) (sz : Nat) (mo : Nat) (st : Nat) (mi : Nat) (mk : Nat) (m6 : Nat) (m7 : Nat) (m9 : Nat) (m10 : Nat) (m15 : Nat) (m16 : Nat) (m17 : Nat) (m18 : Nat) (m19 : Nat) (m20 : Nat) (m21 : Nat) (m22 : Nat) (m23 : Nat) (m24 : Nat) (S : Nat) (T : Nat) (hSb : S < 2 ^ 63) (hTb : T < 2 ^ 63) (hT0 : 0 < T) : Met l yX11_told (wsT yX11_told cX11_told 7 (some .int)) ({ frames := 1, cells := 0, slots := 0, locals := 29 }) (wP G [.ref mo, .long (lN S), .long (lN T)] sz [(mo, eO 10 [.ref st, .ref mi, .ref mk, .long 0, .long 1, .int 0, .ref m6, .ref m7, .int 0, .ref m9, .ref m10, .int 0, .int 0, .int 0, .int 0, .ref m15, .ref m16, .ref m17, .ref m18, .ref m19, .ref m20, .ref m21, .ref m22, .ref m23, .ref m24])]) (va_Qi (fun (r : Int32) (_ : Unit) => r = if S = 0 then 0 else 1) (fun _ _ => True) (va_A [(mo, eO 10 [.ref st, .ref mi, .ref mk, .long 0, .long 1, .int 0, .ref m6, .ref m7, .int 0, .ref m9, .ref m10, .int 0, .int 0, .int 0, .int 0, .ref m15, .ref m16, .ref m17, .ref m18, .ref m19, .ref m20, .ref m21, .ref m22, .ref m23, .ref m24])] sz)) 0 0 (va_A [(mo, eO 10 [.ref st, .ref mi, .ref mk, .long 0, .long 1, .int 0, .ref m6, .ref m7, .int 0, .ref m9, .ref m10, .int 0, .int 0, .int 0, .int 0, .ref m15, .ref m16, .ref m17, .ref m18, .ref m19, .ref m20, .ref m21, .ref m22, .ref m23, .ref m24])] sz) := by
  refine Met.ofW (cc := cX11_told) (maxL := 7) (ret := (some .int)) (by decide) rfl ?_
  intro p e s m args below meth c s₁ B hml hv
  obtain ⟨rfl, hsz, hP, hG, hD0⟩ := hv
  have hx := B.exec
  have hb := B.bytes
  have hr := B.returns
  have hts := my_hts (atoms_spec (ws := wsT yX11_told cX11_told 7 (some .int)) B.pre)
  have hown : s.vm.findClass RX11 = some m.cls := findClass_of_methodNamed B.named
  have hlocks := B.notSynchronized
  subst hsz
  have hD := hD0.self (sz := s.heap.size)
  generalize hAe : va_A [(mo, eO 10 [.ref st, .ref mi, .ref mk, .long 0, .long 1, .int 0, .ref m6, .ref m7, .int 0, .ref m9, .ref m10, .int 0, .int 0, .int 0, .int 0, .ref m15, .ref m16, .ref m17, .ref m18, .ref m19, .ref m20, .ref m21, .ref m22, .ref m23, .ref m24])] s.heap.size = A at hD ⊢
  have hA : ∀ q : Nat, s.heap.size ≤ q → A q := fun q h => by rw [← hAe]; exact Or.inr h
  have hS : va_S A s.heap s.heap [] := va_S.rf
  have hP : va_P G.1 vwCl [(mo, eO 10 [.ref st, .ref mi, .ref mk, .long 0, .long 1, .int 0, .ref m6, .ref m7, .int 0, .ref m9, .ref m10, .int 0, .int 0, .int 0, .int 0, .ref m15, .ref m16, .ref m17, .ref m18, .ref m19, .ref m20, .ref m21, .ref m22, .ref m23, .ref m24])] s.heap := hP
  have hl := lv_entry ([.ref mo, .long (lN S), .long (lN T)]) (n := 7) (Nat.le_of_ble_eq_true rfl)
  rw [lg_entry_eq]
  generalize (lg_sl ([.ref mo, .long (lN S), .long (lN T)]) ++ List.replicate (7 - (lg_sl ([.ref mo, .long (lN S), .long (lN T)])).length) Slot.unset).toArray = ls at hl ⊢
  have hl : lv_has ls 7 [(0, .ref mo), (1, .long (lN S)), (3, .long (lN T))] := hl
  refine lv_lload_n hx hb dX11_told_0 rfl (lv_at hl 1 rfl) ?_
  refine lv_lconst (v := 0) hx hb dX11_told_1 (by decide) ?_
  refine W.lcmp hx hb dX11_told_2 ?_
  refine lv_if_eq (tgt := 12) hx hb dX11_told_3 (by decide) (fun c_3 => ?_) (fun c_3 => ?_)
  · refine lv_iconst (v := 0) hx hb dX11_told_12 (by decide) ?_
    exact W.iret (v := 0) hx hb hr (fun t ht hW => ⟨⟨_, (), rfl, (by rw [if_pos ((lcz hSb).mp c_3)]), trivial⟩, hS.F ht⟩) hS.2.2 dX11_told_13
  · refine lv_lload_n hx hb dX11_told_6 rfl (lv_at hl 2 rfl) ?_
    refine lv_lconst (v := 0) hx hb dX11_told_7 (by decide) ?_
    refine W.lcmp hx hb dX11_told_8 ?_
    refine lv_if_ne (tgt := 14) hx hb dX11_told_9 (by decide) (fun c_9 => ?_) (fun c_9 => absurd c_9 (fun z => absurd ((lcz hTb).mp z) (by omega)))
    have hS0 : 0 < S := by
      have h : ¬ S = 0 := fun z => c_3 ((lcz hSb).mpr z)
      omega
    have hg0 : 0 < Nat.gcd S T := Nat.gcd_pos_of_pos_left _ hS0
    have hgb : Nat.gcd S T < 2 ^ 63 := Nat.lt_of_le_of_lt (Nat.le_of_dvd hS0 (Nat.gcd_dvd_left S T)) hSb
    refine lv_lload_n hx hb dX11_told_14 rfl (lv_at hl 1 rfl) ?_
    refine lv_lload_n hx hb dX11_told_15 rfl (lv_at hl 2 rfl) ?_
    have hPc := hP.sub (ws' := []) [] rfl
    refine rd_calll (va_runS (As := [.long (lN S), .long (lN T)]) (rest := []) ⟨hx, hb, hml, hown, hts⟩ (c_gcd l G S T (by omega) (by omega)) (my_cwS hts ok_X11_divisor w_784 rfl rfl ⟨Nat.le_of_ble_eq_true rfl, Nat.le_of_ble_eq_true rfl⟩) ⟨rP.blind, fun U hU hW => ⟨rfl, by rw [hU]; exact hPc, kG.warm hW hG⟩⟩ rfl rfl hl.1 rfl (lv_room (Nat.le_of_ble_eq_true rfl)) dX11_told_16 ⟨Nat.le_of_ble_eq_true rfl, Nat.le_of_ble_eq_true rfl⟩) (fun r hr9 => ?_)
    subst hr9
    refine lv_lstore (lv' := [(5, .long (lN (Nat.gcd S T))), (0, .ref mo), (1, .long (lN S)), (3, .long (lN T))]) hx hb dX11_told_19 hl (by decide) rfl (fun ls hl => ?_)
    refine lv_aload_n hx hb dX11_told_21 rfl (lv_at hl 1 rfl) ?_
    refine lv_lload_n hx hb dX11_told_22 rfl (lv_at hl 2 rfl) ?_
    refine lv_lload hx hb dX11_told_23 (lv_at hl 0 rfl) ?_
    refine lv_ldiv hx hb dX11_told_25 (lN_ne0 hg0 hgb) ?_
    refine va_put (D := G.1) (ci := 10) (v := .long ((lN S) / (lN (Nat.gcd S T)))) (ty := .long) (C := RX11) (T := TX11) (N := 25) hx hb hts inlX11 tyX11 tyX11_ok nmX11 hown hG.1 hP hD hS 0 rfl rfl 3 (by decide) (hts (.fieldLink RX11 238 "SwornListsModel" "above" "J") w_783) (fun _ h9 => h9) rfl (by decide +kernel) rfl rfl (Nat.le_of_ble_eq_true rfl) dX11_told_26 (fun H locs hP hD hS => ?_)
    have hP : va_P G.1 vwCl [(mo, eO 10 [.ref st, .ref mi, .ref mk, .long ((lN S) / (lN (Nat.gcd S T))), .long 1, .int 0, .ref m6, .ref m7, .int 0, .ref m9, .ref m10, .int 0, .int 0, .int 0, .int 0, .ref m15, .ref m16, .ref m17, .ref m18, .ref m19, .ref m20, .ref m21, .ref m22, .ref m23, .ref m24])] H := hP
    have hD : va_D A [(mo, eO 10 [.ref st, .ref mi, .ref mk, .long ((lN S) / (lN (Nat.gcd S T))), .long 1, .int 0, .ref m6, .ref m7, .int 0, .ref m9, .ref m10, .int 0, .int 0, .int 0, .int 0, .ref m15, .ref m16, .ref m17, .ref m18, .ref m19, .ref m20, .ref m21, .ref m22, .ref m23, .ref m24])] := hD
    refine lv_aload_n hx hb dX11_told_29 rfl (lv_at hl 1 rfl) ?_
    refine lv_lload_n hx hb dX11_told_30 rfl (lv_at hl 3 rfl) ?_
    refine lv_lload hx hb dX11_told_31 (lv_at hl 0 rfl) ?_
    refine lv_ldiv hx hb dX11_told_33 (lN_ne0 hg0 hgb) ?_
    refine va_put (D := G.1) (ci := 10) (v := .long ((lN T) / (lN (Nat.gcd S T)))) (ty := .long) (C := RX11) (T := TX11) (N := 25) hx hb hts inlX11 tyX11 tyX11_ok nmX11 hown hG.1 hP hD hS 0 rfl rfl 4 (by decide) (hts (.fieldLink RX11 63 "SwornListsModel" "below" "J") w_129) (fun _ h9 => h9) rfl (by decide +kernel) rfl rfl (Nat.le_of_ble_eq_true rfl) dX11_told_34 (fun H locs hP hD hS => ?_)
    have hP : va_P G.1 vwCl [(mo, eO 10 [.ref st, .ref mi, .ref mk, .long ((lN S) / (lN (Nat.gcd S T))), .long ((lN T) / (lN (Nat.gcd S T))), .int 0, .ref m6, .ref m7, .int 0, .ref m9, .ref m10, .int 0, .int 0, .int 0, .int 0, .ref m15, .ref m16, .ref m17, .ref m18, .ref m19, .ref m20, .ref m21, .ref m22, .ref m23, .ref m24])] H := hP
    have hD : va_D A [(mo, eO 10 [.ref st, .ref mi, .ref mk, .long ((lN S) / (lN (Nat.gcd S T))), .long ((lN T) / (lN (Nat.gcd S T))), .int 0, .ref m6, .ref m7, .int 0, .ref m9, .ref m10, .int 0, .int 0, .int 0, .int 0, .ref m15, .ref m16, .ref m17, .ref m18, .ref m19, .ref m20, .ref m21, .ref m22, .ref m23, .ref m24])] := hD
    refine lv_iconst (v := 1) hx hb dX11_told_37 (by decide) ?_
    exact W.iret (v := 1) hx hb hr (fun t ht hW => ⟨⟨_, (), rfl, (by rw [if_neg (by omega)]), trivial⟩, hS.F ht⟩) hS.2.2 dX11_told_38
