theorem i64_rem {x y : Int64} (hy : ¬ y = 0) : (x - x / y * y).toInt.natAbs < y.toInt.natAbs := by
  have hy0 : y.toInt ≠ 0 := fun z => hy (Int64.toInt_inj.mp (z.trans (by decide)))
  have hb : -(2 ^ 63) ≤ y.toInt ∧ y.toInt < 2 ^ 63 := ⟨Int64.le_toInt y, Int64.toInt_lt y⟩
  have hm : (x.toInt.tmod y.toInt).natAbs < y.toInt.natAbs := by
    rw [Int.natAbs_tmod]
    exact Nat.mod_lt _ (by omega)
  have e : (x - x / y * y).toInt = x.toInt.tmod y.toInt := by
    rw [Int64.toInt_sub, Int64.toInt_mul, Int64.toInt_div]
    have h1 : (x.toInt - (((x.toInt.tdiv y.toInt).bmod (2 ^ 64)) * y.toInt).bmod (2 ^ 64)).bmod (2 ^ 64) = (x.toInt - (x.toInt.tdiv y.toInt) * y.toInt).bmod (2 ^ 64) := by
      rw [Int.bmod_mul_bmod, Int.sub_bmod_bmod]
    rw [h1]
    have h2 : x.toInt - x.toInt.tdiv y.toInt * y.toInt = x.toInt.tmod y.toInt := by
      have h3 : y.toInt * x.toInt.tdiv y.toInt + x.toInt.tmod y.toInt = x.toInt := Int.mul_tdiv_add_tmod x.toInt y.toInt
      rw [Int.mul_comm] at h3
      omega
    rw [h2]
    apply Int.bmod_eq_of_le <;> omega
  rw [e]
  exact hm
set_option maxHeartbeats 4000000 in
set_option maxRecDepth 100000 in
theorem r_divisor (l : Launch) (G : gW) (g : Nat → Nat) (hg : gOK g) (f : Nat → va_E) (n : Int64) (q : Int64)  (hq : ¬ q = 0) : Met l yX11_divisor (wsT yX11_divisor cX11_divisor 10 (some .long)) ({ frames := 0, cells := 0, slots := 0, locals := 0 }) (bP G g f [.long n, .long q]) (rQl (fun z9 => ∃ z8 : Int64, z9 = z8 ∧ (¬ z8 = 0))) 0 0 fr0 := by
  refine Met.ofW (cc := cX11_divisor) (maxL := 10) (ret := (some .long)) (by decide) rfl ?_
  intro p e s m args below meth c s₁ B hml hv
  obtain ⟨rfl, hP, hG⟩ := hv
  have hx := B.exec
  have hb := B.bytes
  have hr := B.returns
  have hts := my_hts (atoms_spec (ws := wsT yX11_divisor cX11_divisor 10 (some .long)) B.pre)
  have hown : s.vm.findClass RX11 = some m.cls := findClass_of_methodNamed B.named
  have hlocks := B.notSynchronized
  have hl := lv_entry ([.long n, .long q]) (n := 10) (Nat.le_of_ble_eq_true rfl)
  rw [lg_entry_eq]
  generalize (lg_sl ([.long n, .long q]) ++ List.replicate (10 - (lg_sl ([.long n, .long q])).length) Slot.unset).toArray = ls at hl ⊢
  have hl : lv_has ls 10 [(0, .long n), (2, .long q)] := hl
  refine lv_lload_n hx hb dX11_divisor_0 rfl (lv_at hl 0 rfl) ?_
  refine lv_lstore (lv' := [(4, .long n), (0, .long n), (2, .long q)]) hx hb dX11_divisor_1 hl (by decide) rfl (fun ls hl => ?_)
  refine lv_lload_n hx hb dX11_divisor_3 rfl (lv_at hl 2 rfl) ?_
  refine lv_lstore (lv' := [(6, .long q), (4, .long n), (0, .long n), (2, .long q)]) hx hb dX11_divisor_4 hl (by decide) rfl (fun ls hl => ?_)
  have key1 : ∀ (n9_1 : Nat) (u : Int64) (w : Int64) (ls : Array Slot), (¬ (u = 0 ∧ w = 0)) → w.toInt.natAbs < n9_1 → lv_has ls 10 [(4, .long u), (6, .long w)] → W p l e (headSpec (wsT yX11_divisor cX11_divisor 10 (some .long)) ({ frames := 0, cells := 0, slots := 0, locals := 0 })).room s m ([.long n, .long q] : List Value).toArray below meth c s.heap [] 0 0 (MQ below (rQl (fun z9 => ∃ z8 : Int64, z9 = z8 ∧ (¬ z8 = 0))) ([.long n, .long q] : List Value).toArray s 0 0 fr0) (F0 m 6 ls []) := by
    intro n9_1
    induction n9_1 with
    | zero => intro u w ls hz hn9_1; exact absurd hn9_1 (Nat.not_lt_zero _)
    | succ n9_1 ih_1 =>
      intro u w ls hz hn9_1 hl
      refine lv_lload hx hb dX11_divisor_6 (lv_at hl 1 rfl) ?_
      refine lv_lconst (v := 0) hx hb dX11_divisor_8 (by decide) ?_
      refine W.lcmp hx hb dX11_divisor_9 ?_
      refine lv_if_eq (tgt := 31) hx hb dX11_divisor_10 (by decide) (fun c_10 => ?_) (fun c_10 => ?_)
      · refine lv_lload hx hb dX11_divisor_31 (lv_at hl 0 rfl) ?_
        exact W.lret (v := u) hx hb hr (fun t ht hW => ⟨_, rfl, (⟨_, rfl, fun z => hz ⟨z, (lg_cmp_eq _ _).mp c_10⟩⟩), ht⟩) (fun _ h => absurd h List.not_mem_nil) dX11_divisor_33
      · refine lv_lload hx hb dX11_divisor_13 (lv_at hl 0 rfl) ?_
        refine lv_lload hx hb dX11_divisor_15 (lv_at hl 1 rfl) ?_
        refine lv_lrem hx hb dX11_divisor_17 (fun z => c_10 ((lg_cmp_eq _ _).mpr z)) ?_
        refine lv_lstore (lv' := [(8, .long (u - u / w * w)), (4, .long u), (6, .long w)]) hx hb dX11_divisor_18 hl (by decide) rfl (fun ls hl => ?_)
        refine lv_lload hx hb dX11_divisor_20 (lv_at hl 2 rfl) ?_
        refine lv_lstore (lv' := [(4, .long w), (8, .long (u - u / w * w)), (6, .long w)]) hx hb dX11_divisor_22 hl (by decide) rfl (fun ls hl => ?_)
        refine lv_lload hx hb dX11_divisor_24 (lv_at hl 1 rfl) ?_
        refine lv_lstore (lv' := [(6, .long (u - u / w * w)), (4, .long w), (8, .long (u - u / w * w))]) hx hb dX11_divisor_26 hl (by decide) rfl (fun ls hl => ?_)
        refine lv_goto (tgt := 6) hx hb dX11_divisor_28 (by decide) ?_
        exact ih_1 w (u - u / w * w) _ (fun z => c_10 ((lg_cmp_eq _ _).mpr z.1)) (Nat.lt_of_lt_of_le (i64_rem (fun z => c_10 ((lg_cmp_eq _ _).mpr z))) (Nat.le_of_lt_succ (by assumption))) (lv_sub hl [1, 0] rfl)
  exact key1 (q.toInt.natAbs + 1) n q _ (fun z => hq z.2) (Nat.lt_succ_self _) (lv_sub hl [1, 0] rfl)
set_option maxHeartbeats 4000000 in
set_option maxRecDepth 100000 in
theorem r_told (l : Launch) (G : gW) (g : Nat → Nat) (hg : gOK g) (f : Nat → va_E) (ab2 : Int64) (be2 : Int64) (sn : Int32) (wn : Int32) (sa : Int32) (ly : Int32) (rdy : Int32) (fd : Nat) (n : Int64) (q : Int64) (hmo : f 315 = eO 10 [.ref (g 316), .ref (g 317), .ref (g 318), .long ab2, .long be2, .int sn, .ref (g 319), .ref (g 320), .int wn, .ref (g 321), .ref (g 322), .int sa, .int ly, .int rdy, .int (nI fd), .ref (g 323), .ref (g 324), .ref (g 325), .ref (g 326), .ref (g 327), .ref (g 328), .ref (g 329), .ref (g 330), .ref (g 331), .ref (g 332)])  : Met l yX11_told (wsT yX11_told cX11_told 7 (some .int)) ({ frames := 1, cells := 0, slots := 0, locals := 29 }) (bP G g f [.ref (g 315), .long n, .long q]) (bQi G g (fun (z9 : Int32) (f' : Nat → va_E) => ∃ ab9 : Int64, ∃ be9 : Int64, f' 315 = eO 10 [.ref (g 316), .ref (g 317), .ref (g 318), .long ab9, .long be9, .int sn, .ref (g 319), .ref (g 320), .int wn, .ref (g 321), .ref (g 322), .int sa, .int ly, .int rdy, .int (nI fd), .ref (g 323), .ref (g 324), .ref (g 325), .ref (g 326), .ref (g 327), .ref (g 328), .ref (g 329), .ref (g 330), .ref (g 331), .ref (g 332)] ∧ ∀ j, j ≠ 315 → f' j = f j)) 0 0 (gA g) := by
  refine Met.ofW (cc := cX11_told) (maxL := 7) (ret := (some .int)) (by decide) rfl ?_
  intro p e s m args below meth c s₁ B hml hv
  obtain ⟨rfl, hP, hG⟩ := hv
  have hx := B.exec
  have hb := B.bytes
  have hr := B.returns
  have hts := my_hts (atoms_spec (ws := wsT yX11_told cX11_told 7 (some .int)) B.pre)
  have hown : s.vm.findClass RX11 = some m.cls := findClass_of_methodNamed B.named
  have hlocks := B.notSynchronized
  have hS : va_S (gA g) s.heap s.heap [] := va_S.rf
  have hl := lv_entry ([.ref (g 315), .long n, .long q]) (n := 7) (Nat.le_of_ble_eq_true rfl)
  rw [lg_entry_eq]
  generalize (lg_sl ([.ref (g 315), .long n, .long q]) ++ List.replicate (7 - (lg_sl ([.ref (g 315), .long n, .long q])).length) Slot.unset).toArray = ls at hl ⊢
  have hl : lv_has ls 7 [(0, .ref (g 315)), (1, .long n), (3, .long q)] := hl
  refine lv_lload_n hx hb dX11_told_0 rfl (lv_at hl 1 rfl) ?_
  refine lv_lconst (v := 0) hx hb dX11_told_1 (by decide) ?_
  refine W.lcmp hx hb dX11_told_2 ?_
  refine lv_if_eq (tgt := 12) hx hb dX11_told_3 (by decide) (fun c_3 => ?_) (fun c_3 => ?_)
  · refine lv_iconst (v := 0) hx hb dX11_told_12 (by decide) ?_
    exact W.iret (v := 0) hx hb hr (fun t ht hW => ⟨⟨_, f, rfl, (⟨ab2, be2, hmo, fun j hj => rfl⟩), by rw [ht]; exact hP⟩, hS.F ht⟩) hS.2.2 dX11_told_13
  · refine lv_lload_n hx hb dX11_told_6 rfl (lv_at hl 2 rfl) ?_
    refine lv_lconst (v := 0) hx hb dX11_told_7 (by decide) ?_
    refine W.lcmp hx hb dX11_told_8 ?_
    refine lv_if_ne (tgt := 14) hx hb dX11_told_9 (by decide) (fun c_9 => ?_) (fun c_9 => ?_)
    · refine lv_lload_n hx hb dX11_told_14 rfl (lv_at hl 1 rfl) ?_
      refine lv_lload_n hx hb dX11_told_15 rfl (lv_at hl 2 rfl) ?_
      refine rd_calll (va_runS (As := [.long n, .long q]) (rest := []) ⟨hx, hb, hml, hown, hts⟩ (r_divisor l G g hg f n q  (fun z => c_9 ((lg_cmp_eq _ _).mpr z))) (my_cwS hts ok_X11_divisor w_784 rfl rfl ⟨Nat.le_of_ble_eq_true rfl, Nat.le_of_ble_eq_true rfl⟩) ⟨bP.blind, fun U hU hW => ⟨rfl, by rw [hU]; exact hP, kG.warm hW hG⟩⟩ rfl rfl hl.1 rfl (lv_room (Nat.le_of_ble_eq_true rfl)) dX11_told_16 ⟨Nat.le_of_ble_eq_true rfl, Nat.le_of_ble_eq_true rfl⟩) (fun z81 hr9 => ?_)
      obtain ⟨w9, e9, hx_1_0⟩ := hr9
      subst e9
      refine lv_lstore (lv' := [(5, .long z81), (0, .ref (g 315)), (1, .long n), (3, .long q)]) hx hb dX11_told_19 hl (by decide) rfl (fun ls hl => ?_)
      refine lv_aload_n hx hb dX11_told_21 rfl (lv_at hl 1 rfl) ?_
      refine lv_lload_n hx hb dX11_told_22 rfl (lv_at hl 2 rfl) ?_
      refine lv_lload hx hb dX11_told_23 (lv_at hl 0 rfl) ?_
      refine lv_ldiv hx hb dX11_told_25 (hx_1_0) ?_
      refine va_put (D := G.1) (ci := 10) (v := .long (n / z81)) (ty := .long) (C := RX11) (T := TX11) (N := 25) hx hb hts inlX11 tyX11 tyX11_ok nmX11 hown hG.1 hP (wl_D hg f) hS 315 (wl_at (by decide) hmo) rfl 3 (by decide) (hts (.fieldLink RX11 238 "SwornListsModel" "above" "J") w_783) (fun _ h9 => h9) rfl (by decide +kernel) rfl rfl (Nat.le_of_ble_eq_true rfl) dX11_told_26 (fun H locs hP _ hS => ?_)
      obtain ⟨f_2, hP, e_2, o_2⟩ := b_put (by decide) hP
      have hmo : f_2 315 = eO 10 [.ref (g 316), .ref (g 317), .ref (g 318), .long (n / z81), .long be2, .int sn, .ref (g 319), .ref (g 320), .int wn, .ref (g 321), .ref (g 322), .int sa, .int ly, .int rdy, .int (nI fd), .ref (g 323), .ref (g 324), .ref (g 325), .ref (g 326), .ref (g 327), .ref (g 328), .ref (g 329), .ref (g 330), .ref (g 331), .ref (g 332)] := e_2
      refine lv_aload_n hx hb dX11_told_29 rfl (lv_at hl 1 rfl) ?_
      refine lv_lload_n hx hb dX11_told_30 rfl (lv_at hl 3 rfl) ?_
      refine lv_lload hx hb dX11_told_31 (lv_at hl 0 rfl) ?_
      refine lv_ldiv hx hb dX11_told_33 (hx_1_0) ?_
      refine va_put (D := G.1) (ci := 10) (v := .long (q / z81)) (ty := .long) (C := RX11) (T := TX11) (N := 25) hx hb hts inlX11 tyX11 tyX11_ok nmX11 hown hG.1 hP (wl_D hg f_2) hS 315 (wl_at (by decide) hmo) rfl 4 (by decide) (hts (.fieldLink RX11 63 "SwornListsModel" "below" "J") w_129) (fun _ h9 => h9) rfl (by decide +kernel) rfl rfl (Nat.le_of_ble_eq_true rfl) dX11_told_34 (fun H locs hP _ hS => ?_)
      obtain ⟨f_3, hP, e_3, o_3⟩ := b_put (by decide) hP
      have hmo : f_3 315 = eO 10 [.ref (g 316), .ref (g 317), .ref (g 318), .long (n / z81), .long (q / z81), .int sn, .ref (g 319), .ref (g 320), .int wn, .ref (g 321), .ref (g 322), .int sa, .int ly, .int rdy, .int (nI fd), .ref (g 323), .ref (g 324), .ref (g 325), .ref (g 326), .ref (g 327), .ref (g 328), .ref (g 329), .ref (g 330), .ref (g 331), .ref (g 332)] := e_3
      refine lv_iconst (v := 1) hx hb dX11_told_37 (by decide) ?_
      exact W.iret (v := 1) hx hb hr (fun t ht hW => ⟨⟨_, f_3, rfl, (⟨(n / z81), (q / z81), hmo, fun j hj => ((o_3 j (by omega))).trans (o_2 j (by omega))⟩), by rw [ht]; exact hP⟩, hS.F ht⟩) hS.2.2 dX11_told_38
    · refine lv_iconst (v := 0) hx hb dX11_told_12 (by decide) ?_
      exact W.iret (v := 0) hx hb hr (fun t ht hW => ⟨⟨_, f, rfl, (⟨ab2, be2, hmo, fun j hj => rfl⟩), by rw [ht]; exact hP⟩, hS.F ht⟩) hS.2.2 dX11_told_13
set_option maxHeartbeats 4000000 in
set_option maxRecDepth 100000 in
theorem r_ways (l : Launch) (G : gW) (g : Nat → Nat) (hg : gOK g) (f : Nat → va_E) (n : Int32) (q : Int32)  (hn2 : n.toInt < 2147483647) : Met l yX11_ways (wsT yX11_ways cX11_ways 5 (some .long)) ({ frames := 0, cells := 0, slots := 0, locals := 0 }) (bP G g f [.int n, .int q]) (rQl (fun z9 => True)) 0 0 fr0 := by
  refine Met.ofW (cc := cX11_ways) (maxL := 5) (ret := (some .long)) (by decide) rfl ?_
  intro p e s m args below meth c s₁ B hml hv
  obtain ⟨rfl, hP, hG⟩ := hv
  have hx := B.exec
  have hb := B.bytes
  have hr := B.returns
  have hts := my_hts (atoms_spec (ws := wsT yX11_ways cX11_ways 5 (some .long)) B.pre)
  have hown : s.vm.findClass RX11 = some m.cls := findClass_of_methodNamed B.named
  have hlocks := B.notSynchronized
  have hl := lv_entry ([.int n, .int q]) (n := 5) (Nat.le_of_ble_eq_true rfl)
  rw [lg_entry_eq]
  generalize (lg_sl ([.int n, .int q]) ++ List.replicate (5 - (lg_sl ([.int n, .int q])).length) Slot.unset).toArray = ls at hl ⊢
  have hl : lv_has ls 5 [(0, .int n), (1, .int q)] := hl
  refine lv_iload_n hx hb dX11_ways_0 rfl (lv_at hl 1 rfl) ?_
  refine lv_if_lt (tgt := 9) hx hb dX11_ways_1 (by decide) (fun c_1 => ?_) (fun c_1 => ?_)
  · refine lv_lconst (v := 0) hx hb dX11_ways_9 (by decide) ?_
    exact W.lret (v := 0) hx hb hr (fun t ht hW => ⟨_, rfl, (trivial), ht⟩) (fun _ h => absurd h List.not_mem_nil) dX11_ways_10
  · refine lv_iload_n hx hb dX11_ways_4 rfl (lv_at hl 1 rfl) ?_
    refine lv_iload_n hx hb dX11_ways_5 rfl (lv_at hl 0 rfl) ?_
    refine lv_icmp_le (tgt := 11) hx hb dX11_ways_6 (by decide) (fun c_6 => ?_) (fun c_6 => ?_)
    · have hqn := Int32.le_iff_toInt_le.mp c_6
      refine lv_lconst (v := 1) hx hb dX11_ways_11 (by decide) ?_
      refine lv_lstore_n (lv' := [(2, .long 1), (0, .int n), (1, .int q)]) hx hb dX11_ways_12 rfl hl (by decide) rfl (fun ls hl => ?_)
      refine lv_iconst (v := 1) hx hb dX11_ways_13 (by decide) ?_
      refine lv_istore (lv' := [(4, .int 1), (2, .long 1), (0, .int n), (1, .int q)]) hx hb dX11_ways_14 hl (by decide) rfl (fun ls hl => ?_)
      have key1 : ∀ (n9_1 : Nat) (i : Nat) (u : Int64) (ls : Array Slot), (1 ≤ i) → (i ≤ 2147483647) → 2147483648 - i < n9_1 → lv_has ls 5 [(0, .int n), (1, .int q), (2, .long u), (4, .int (nI i))] → W p l e (headSpec (wsT yX11_ways cX11_ways 5 (some .long)) ({ frames := 0, cells := 0, slots := 0, locals := 0 })).room s m ([.int n, .int q] : List Value).toArray below meth c s.heap [] 0 0 (MQ below (rQl (fun z9 => True)) ([.int n, .int q] : List Value).toArray s 0 0 fr0) (F0 m 16 ls []) := by
        intro n9_1
        induction n9_1 with
        | zero => intro i u ls h1 h2 hn9_1; exact absurd hn9_1 (Nat.not_lt_zero _)
        | succ n9_1 ih_1 =>
          intro i u ls h1 h2 hn9_1 hl
          refine lv_iload hx hb dX11_ways_16 (lv_at hl 3 rfl) ?_
          refine lv_iload_n hx hb dX11_ways_18 rfl (lv_at hl 1 rfl) ?_
          refine lv_icmp_gt (tgt := 42) hx hb dX11_ways_19 (by decide) (fun c_19 => ?_) (fun c_19 => ?_)
          · refine lv_lload_n hx hb dX11_ways_42 rfl (lv_at hl 2 rfl) ?_
            exact W.lret (v := u) hx hb hr (fun t ht hW => ⟨_, rfl, (trivial), ht⟩) (fun _ h => absurd h List.not_mem_nil) dX11_ways_43
          · have hle := le_i32 (by omega) c_19
            refine lv_lload_n hx hb dX11_ways_22 rfl (lv_at hl 2 rfl) ?_
            refine lv_iload_n hx hb dX11_ways_23 rfl (lv_at hl 0 rfl) ?_
            refine lv_iload_n hx hb dX11_ways_24 rfl (lv_at hl 1 rfl) ?_
            refine lv_isub hx hb dX11_ways_25 ?_
            refine lv_iload hx hb dX11_ways_26 (lv_at hl 3 rfl) ?_
            refine lv_iadd hx hb dX11_ways_28 ?_
            refine lv_i2l hx hb dX11_ways_29 rfl ?_
            refine lv_lmul hx hb dX11_ways_30 ?_
            refine lv_iload hx hb dX11_ways_31 (lv_at hl 3 rfl) ?_
            refine lv_i2l hx hb dX11_ways_33 rfl ?_
            refine lv_ldiv hx hb dX11_ways_34 (i2l_ne (by omega) (by omega)) ?_
            refine lv_lstore_n (lv' := [(2, .long ((u * (Int32.toInt64 ((n - q) + (nI i)))) / (Int32.toInt64 (nI i)))), (0, .int n), (1, .int q), (4, .int (nI i))]) hx hb dX11_ways_35 rfl hl (by decide) rfl (fun ls hl => ?_)
            refine lv_iinc (v := nI (i + 1)) (lv' := [(4, .int (nI (i + 1))), (2, .long ((u * (Int32.toInt64 ((n - q) + (nI i)))) / (Int32.toInt64 (nI i)))), (0, .int n), (1, .int q)]) hx hb dX11_ways_36 hl (k := 3) rfl (nI_1 i) (by decide) rfl (fun ls hl => ?_)
            refine lv_goto (tgt := 16) hx hb dX11_ways_39 (by decide) ?_
            exact ih_1 (i + 1) ((u * (Int32.toInt64 ((n - q) + (nI i)))) / (Int32.toInt64 (nI i))) _ (by omega) (by omega) (by omega) (lv_sub hl [2, 3, 1, 0] rfl)
      exact key1 (2147483648 + 1) 1 1 _ (by omega) (by omega) (by omega) (lv_sub hl [2, 3, 1, 0] rfl)
    · refine lv_lconst (v := 0) hx hb dX11_ways_9 (by decide) ?_
      exact W.lret (v := 0) hx hb hr (fun t ht hW => ⟨_, rfl, (trivial), ht⟩) (fun _ h => absurd h List.not_mem_nil) dX11_ways_10
set_option maxHeartbeats 4000000 in
set_option maxRecDepth 100000 in
theorem r_mixed (l : Launch) (G : gW) (g : Nat → Nat) (hg : gOK g) (f : Nat → va_E) (ab2 : Int64) (be2 : Int64) (sn : Int32) (wn : Int32) (sa : Int32) (ly : Int32) (rdy : Int32) (fd : Int32) (ss : Nat → Int32) (h : Int64) (at0 : Nat) (w : Nat) (hmo : f 315 = eO 10 [.ref (g 316), .ref (g 317), .ref (g 318), .long ab2, .long be2, .int sn, .ref (g 319), .ref (g 320), .int wn, .ref (g 321), .ref (g 322), .int sa, .int ly, .int rdy, .int fd, .ref (g 323), .ref (g 324), .ref (g 325), .ref (g 326), .ref (g 327), .ref (g 328), .ref (g 329), .ref (g 330), .ref (g 331), .ref (g 332)]) (hss_ : f 316 = eI G 2246 ss) (haw : at0 + w ≤ 2246) : Met l yX11_mixed (wsT yX11_mixed cX11_mixed 8 (some .long)) ({ frames := 0, cells := 0, slots := 0, locals := 0 }) (bP G g f [.ref (g 315), .long h, .int (nI at0), .int (nI w)]) (rQl (fun z9 => True)) 0 0 fr0 := by
  refine Met.ofW (cc := cX11_mixed) (maxL := 8) (ret := (some .long)) (by decide) rfl ?_
  intro p e s m args below meth c s₁ B hml hv
  obtain ⟨rfl, hP, hG⟩ := hv
  have hx := B.exec
  have hb := B.bytes
  have hr := B.returns
  have hts := my_hts (atoms_spec (ws := wsT yX11_mixed cX11_mixed 8 (some .long)) B.pre)
  have hown : s.vm.findClass RX11 = some m.cls := findClass_of_methodNamed B.named
  have hlocks := B.notSynchronized
  have hl := lv_entry ([.ref (g 315), .long h, .int (nI at0), .int (nI w)]) (n := 8) (Nat.le_of_ble_eq_true rfl)
  rw [lg_entry_eq]
  generalize (lg_sl ([.ref (g 315), .long h, .int (nI at0), .int (nI w)]) ++ List.replicate (8 - (lg_sl ([.ref (g 315), .long h, .int (nI at0), .int (nI w)])).length) Slot.unset).toArray = ls at hl ⊢
  have hl : lv_has ls 8 [(0, .ref (g 315)), (1, .long h), (3, .int (nI at0)), (4, .int (nI w))] := hl
  refine lv_lload_n hx hb dX11_mixed_0 rfl (lv_at hl 1 rfl) ?_
  refine lv_lstore (lv' := [(5, .long h), (0, .ref (g 315)), (1, .long h), (3, .int (nI at0)), (4, .int (nI w))]) hx hb dX11_mixed_1 hl (by decide) rfl (fun ls hl => ?_)
  refine lv_iconst (v := 0) hx hb dX11_mixed_3 (by decide) ?_
  refine lv_istore (lv' := [(7, .int 0), (5, .long h), (0, .ref (g 315)), (1, .long h), (3, .int (nI at0)), (4, .int (nI w))]) hx hb dX11_mixed_4 hl (by decide) rfl (fun ls hl => ?_)
  have key1 : ∀ (n9_1 : Nat) (i : Nat) (u : Int64) (ls : Array Slot), (i ≤ w) → w - i < n9_1 → lv_has ls 8 [(0, .ref (g 315)), (3, .int (nI at0)), (4, .int (nI w)), (5, .long u), (7, .int (nI i))] → W p l e (headSpec (wsT yX11_mixed cX11_mixed 8 (some .long)) ({ frames := 0, cells := 0, slots := 0, locals := 0 })).room s m ([.ref (g 315), .long h, .int (nI at0), .int (nI w)] : List Value).toArray below meth c s.heap [] 0 0 (MQ below (rQl (fun z9 => True)) ([.ref (g 315), .long h, .int (nI at0), .int (nI w)] : List Value).toArray s 0 0 fr0) (F0 m 6 ls []) := by
    intro n9_1
    induction n9_1 with
    | zero => intro i u ls hi hn9_1; exact absurd hn9_1 (Nat.not_lt_zero _)
    | succ n9_1 ih_1 =>
      intro i u ls hi hn9_1 hl
      refine lv_iload hx hb dX11_mixed_6 (lv_at hl 4 rfl) ?_
      refine lv_iload hx hb dX11_mixed_8 (lv_at hl 2 rfl) ?_
      refine lv_icmp_ge (tgt := 38) hx hb dX11_mixed_10 (by decide) (fun c_10 => ?_) (fun c_10 => ?_)
      · have k_10 : w ≤ i := (nI_leI (a := w) (b := i) (by omega) (by omega)).mp c_10
        refine lv_lload hx hb dX11_mixed_38 (lv_at hl 3 rfl) ?_
        exact W.lret (v := u) hx hb hr (fun t ht hW => ⟨_, rfl, (trivial), ht⟩) (fun _ h => absurd h List.not_mem_nil) dX11_mixed_40
      · have k_10 : ¬ w ≤ i := fun z9 => c_10 ((nI_leI (a := w) (b := i) (by omega) (by omega)).mpr z9)
        refine lv_ldc2 (v := 31) hx hb hown (hts (.constantLong RX11 261 (31)) w_976) dX11_mixed_13 ?_
        refine lv_lload hx hb dX11_mixed_16 (lv_at hl 3 rfl) ?_
        refine lv_lmul hx hb dX11_mixed_18 ?_
        refine lv_aload_n hx hb dX11_mixed_19 rfl (lv_at hl 0 rfl) ?_
        refine va_get (D := G.1) (ci := 10) (v := .ref (g 316)) (C := RX11) (T := TX11) (N := 25) hx hb hts inlX11 hown hG.1 hP 315 (wl_at (by decide) hmo) rfl 0 (by decide) (hts (.fieldLink RX11 7 "SwornListsModel" "st" "[I") w_112) (fun _ h9 => h9) rfl dX11_mixed_20 ?_
        refine lv_iload_n hx hb dX11_mixed_23 rfl (lv_at hl 1 rfl) ?_
        refine lv_iload hx hb dX11_mixed_24 (lv_at hl 4 rfl) ?_
        refine lv_iadd hx hb dX11_mixed_26 ?_
        refine my_bei (v := nI (at0 + i)) (nI_add at0 i) ?_
        refine va_iald hx hb hG.1 hP 316 0 (wl_at (by decide) hss_) rfl (vp_in_nI (by omega) (by decide)) dX11_mixed_27 ?_
        refine my_bei (v := ss (at0 + i)) (congrArg ss (nI_clamp (n := at0 + i) (by omega))) ?_
        refine lv_i2l hx hb dX11_mixed_28 rfl ?_
        refine lv_ladd hx hb dX11_mixed_29 ?_
        refine lv_lstore (lv' := [(5, .long ((31 * u) + (Int32.toInt64 (ss (at0 + i))))), (0, .ref (g 315)), (3, .int (nI at0)), (4, .int (nI w)), (7, .int (nI i))]) hx hb dX11_mixed_30 hl (by decide) rfl (fun ls hl => ?_)
        refine lv_iinc (v := nI (i + 1)) (lv' := [(7, .int (nI (i + 1))), (5, .long ((31 * u) + (Int32.toInt64 (ss (at0 + i))))), (0, .ref (g 315)), (3, .int (nI at0)), (4, .int (nI w))]) hx hb dX11_mixed_32 hl (k := 4) rfl (nI_add i 1) (by decide) rfl (fun ls hl => ?_)
        refine lv_goto (tgt := 6) hx hb dX11_mixed_35 (by decide) ?_
        exact ih_1 (i + 1) ((31 * u) + (Int32.toInt64 (ss (at0 + i)))) _ (by omega) (by omega) (lv_sub hl [2, 3, 4, 1, 0] rfl)
  exact key1 (w + 1) 0 h _ (Nat.zero_le _) (by omega) (lv_sub hl [2, 4, 5, 1, 0] rfl)
