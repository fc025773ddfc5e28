theorem get_n0 {i : Int32} (h : inB 0 i 3 = true) : ¬ i < 0 := Int32.not_lt.mpr (of_decide_eq_true h).1
theorem get_n4 {i : Int32} (h : inB 0 i 3 = true) : ¬ (4 : Int32) ≤ i := fun q => by
  have h2 : i.toInt ≤ 3 := Int32.le_iff_toInt_le.mp (of_decide_eq_true h).2
  have h3 : (4 : Int) ≤ i.toInt := Int32.le_iff_toInt_le.mp q
  omega
theorem get_in {i : Int32} (h : inB 0 i 3 = true) : vp_in i 4 := by
  have h1 : (0 : Int) ≤ i.toInt := Int32.le_iff_toInt_le.mp (of_decide_eq_true h).1
  have h2 : i.toInt ≤ 3 := Int32.le_iff_toInt_le.mp (of_decide_eq_true h).2
  exact vp_in_iff.mpr ⟨h1, by omega⟩
set_option maxHeartbeats 4000000 in
set_option maxRecDepth 100000 in
theorem c_unsettle0 (l : Launch) (G : gW) (sz : Nat) (a : Nat) (bk : Nat) (hs : Nat) (sp : Nat) (vl : Nat)  : Met l yX1_unsettle (wsT yX1_unsettle cX1_unsettle 2 none) ({ frames := 1, cells := 0, slots := 0, locals := 14 }) (wP G [.ref a, .int 0] sz [(a, eO 1 [.ref bk, .ref hs, .ref sp, .ref vl, .int 0])]) (va_Qv (fun _ : Unit => True) (wB G (va_A [(a, eO 1 [.ref bk, .ref hs, .ref sp, .ref vl, .int 0])] sz) (fun _ : Unit => [(a, eO 1 [.ref bk, .ref hs, .ref sp, .ref vl, .int 0])])) (va_A [(a, eO 1 [.ref bk, .ref hs, .ref sp, .ref vl, .int 0])] sz)) 0 0 (va_A [(a, eO 1 [.ref bk, .ref hs, .ref sp, .ref vl, .int 0])] sz) := by
  refine Met.ofW (cc := cX1_unsettle) (maxL := 2) (ret := none) (by decide) rfl ?_
  intro p e s m args below meth c s₁ B hml hv
  obtain ⟨rfl, hsz, hP, hG, hD0⟩ := hv
  have hx := B.exec
  have hb := B.bytes
  have hr := B.returns
  have hts := my_hts (atoms_spec (ws := wsT yX1_unsettle cX1_unsettle 2 none) B.pre)
  have hown : s.vm.findClass RX1 = some m.cls := findClass_of_methodNamed B.named
  have hlocks := B.notSynchronized
  subst hsz
  have hD := hD0.self (sz := s.heap.size)
  generalize hAe : va_A [(a, eO 1 [.ref bk, .ref hs, .ref sp, .ref vl, .int 0])] s.heap.size = A at hD ⊢
  have hA : ∀ q : Nat, s.heap.size ≤ q → A q := fun q h => by rw [← hAe]; exact Or.inr h
  have hS : va_S A s.heap s.heap [] := va_S.rf
  have hP : va_P G.1 vwCl [(a, eO 1 [.ref bk, .ref hs, .ref sp, .ref vl, .int 0])] s.heap := hP
  have hl := lv_entry ([.ref a, .int 0]) (n := 2) (Nat.le_of_ble_eq_true rfl)
  rw [lg_entry_eq]
  generalize (lg_sl ([.ref a, .int 0]) ++ List.replicate (2 - (lg_sl ([.ref a, .int 0])).length) Slot.unset).toArray = ls at hl ⊢
  have hl : lv_has ls 2 [(0, .ref a), (1, .int 0)] := hl
  refine lv_aload_n hx hb dX1_unsettle_0 rfl (lv_at hl 0 rfl) ?_
  refine lv_aload_n hx hb dX1_unsettle_1 rfl (lv_at hl 0 rfl) ?_
  refine va_get (D := G.1) (ci := 1) (v := .int 0) (C := RX1) (T := TX1) (N := 5) hx hb hts inlX1 hown hG.1 hP 0 rfl rfl 4 (by decide) (hts (.fieldLink RX1 33 "SwornLists$Court" "settled" "I") w_150) (fun _ h9 => h9) rfl dX1_unsettle_2 ?_
  refine lv_iload_n hx hb dX1_unsettle_5 rfl (lv_at hl 1 rfl) ?_
  refine va_mmin hx hb (by rw [hml]; exact hl.1.symm) hown (hts (.methodLink RX1 37 Lib.Math.min.name) w_151) (hts (.static Lib.Math.min.name) w_152) (hts (.initialized "java/lang/Math") w_153) (hts (.code Lib.Math.min.name Lib.Math.min.code 2 (some .int)) w_154) (Nat.le_of_ble_eq_true rfl) (Nat.le_of_ble_eq_true rfl) (Nat.le_of_ble_eq_true rfl) (Nat.le_of_ble_eq_true rfl) dX1_unsettle_6 ?_
  refine my_bei (v := 0) (by decide) ?_
  refine va_put (D := G.1) (ci := 1) (v := .int 0) (ty := .int) (C := RX1) (T := TX1) (N := 5) hx hb hts inlX1 tyX1 tyX1_ok nmX1 hown hG.1 hP hD hS 0 rfl rfl 4 (by decide) (hts (.fieldLink RX1 33 "SwornLists$Court" "settled" "I") w_150) (fun _ h9 => h9) rfl (by decide +kernel) rfl rfl (Nat.le_of_ble_eq_true rfl) dX1_unsettle_9 (fun H locs hP hD hS => ?_)
  have hP : va_P G.1 vwCl [(a, eO 1 [.ref bk, .ref hs, .ref sp, .ref vl, .int 0])] H := hP
  have hD : va_D A [(a, eO 1 [.ref bk, .ref hs, .ref sp, .ref vl, .int 0])] := hD
  have hP9 := hP.sub (ws' := [(a, eO 1 [.ref bk, .ref hs, .ref sp, .ref vl, .int 0])]) [0] rfl
  have hD9 := hD.sub (ws' := [(a, eO 1 [.ref bk, .ref hs, .ref sp, .ref vl, .int 0])]) [0] (by decide) rfl
  exact W.vret hx hb hr (fun t ht hW => ⟨⟨(), rfl, (trivial), ⟨by rw [ht]; exact hP9, hD9⟩⟩, hS.F ht⟩) hS.2.2 dX1_unsettle_12
set_option maxHeartbeats 4000000 in
set_option maxRecDepth 100000 in
theorem c_settle0 (l : Launch) (G : gW) (sz : Nat) (a : Nat) (bk : Nat) (hs : Nat) (sp : Nat) (vl : Nat) (pe : Nat) (fa : Nat) (ro : Nat) (ac : Nat) (tr : Nat) (la : Nat) (tx : Nat) (tra : Nat)  : Met l yX1_settle (wsT yX1_settle cX1_settle 3 none) ({ frames := 1, cells := 0, slots := 0, locals := 20 }) (wP G [.ref a] sz [(a, eO 1 [.ref bk, .ref hs, .ref sp, .ref vl, .int 0]), (bk, eO 0 [.ref pe, .ref fa, .ref ro, .ref ac, .ref tr, .ref la, .ref tx, .int 5, .int 20]), (tr, eO 5 [.int 10, .int 70, .ref tra, .int 0])]) (va_Qv (fun _ : Unit => True) (wB G (va_A [(a, eO 1 [.ref bk, .ref hs, .ref sp, .ref vl, .int 0]), (bk, eO 0 [.ref pe, .ref fa, .ref ro, .ref ac, .ref tr, .ref la, .ref tx, .int 5, .int 20]), (tr, eO 5 [.int 10, .int 70, .ref tra, .int 0])] sz) (fun _ : Unit => [(a, eO 1 [.ref bk, .ref hs, .ref sp, .ref vl, .int 0]), (bk, eO 0 [.ref pe, .ref fa, .ref ro, .ref ac, .ref tr, .ref la, .ref tx, .int 5, .int 20]), (tr, eO 5 [.int 10, .int 70, .ref tra, .int 0])])) (va_A [(a, eO 1 [.ref bk, .ref hs, .ref sp, .ref vl, .int 0]), (bk, eO 0 [.ref pe, .ref fa, .ref ro, .ref ac, .ref tr, .ref la, .ref tx, .int 5, .int 20]), (tr, eO 5 [.int 10, .int 70, .ref tra, .int 0])] sz)) 0 0 (va_A [(a, eO 1 [.ref bk, .ref hs, .ref sp, .ref vl, .int 0]), (bk, eO 0 [.ref pe, .ref fa, .ref ro, .ref ac, .ref tr, .ref la, .ref tx, .int 5, .int 20]), (tr, eO 5 [.int 10, .int 70, .ref tra, .int 0])] sz) := by
  refine Met.ofW (cc := cX1_settle) (maxL := 3) (ret := none) (by decide) rfl ?_
  intro p e s m args below meth c s₁ B hml hv
  obtain ⟨rfl, hsz, hP, hG, hD0⟩ := hv
  have hx := B.exec
  have hb := B.bytes
  have hr := B.returns
  have hts := my_hts (atoms_spec (ws := wsT yX1_settle cX1_settle 3 none) B.pre)
  have hown : s.vm.findClass RX1 = some m.cls := findClass_of_methodNamed B.named
  have hlocks := B.notSynchronized
  subst hsz
  have hD := hD0.self (sz := s.heap.size)
  generalize hAe : va_A [(a, eO 1 [.ref bk, .ref hs, .ref sp, .ref vl, .int 0]), (bk, eO 0 [.ref pe, .ref fa, .ref ro, .ref ac, .ref tr, .ref la, .ref tx, .int 5, .int 20]), (tr, eO 5 [.int 10, .int 70, .ref tra, .int 0])] s.heap.size = A at hD ⊢
  have hA : ∀ q : Nat, s.heap.size ≤ q → A q := fun q h => by rw [← hAe]; exact Or.inr h
  have hS : va_S A s.heap s.heap [] := va_S.rf
  have hP : va_P G.1 vwCl [(a, eO 1 [.ref bk, .ref hs, .ref sp, .ref vl, .int 0]), (bk, eO 0 [.ref pe, .ref fa, .ref ro, .ref ac, .ref tr, .ref la, .ref tx, .int 5, .int 20]), (tr, eO 5 [.int 10, .int 70, .ref tra, .int 0])] s.heap := hP
  have hl := lv_entry ([.ref a]) (n := 3) (Nat.le_of_ble_eq_true rfl)
  rw [lg_entry_eq]
  generalize (lg_sl ([.ref a]) ++ List.replicate (3 - (lg_sl ([.ref a])).length) Slot.unset).toArray = ls at hl ⊢
  have hl : lv_has ls 3 [(0, .ref a)] := hl
  refine lv_aload_n hx hb dX1_settle_0 rfl (lv_at hl 0 rfl) ?_
  refine va_get (D := G.1) (ci := 1) (v := .int 0) (C := RX1) (T := TX1) (N := 5) hx hb hts inlX1 hown hG.1 hP 0 rfl rfl 4 (by decide) (hts (.fieldLink RX1 33 "SwornLists$Court" "settled" "I") w_150) (fun _ h9 => h9) rfl dX1_settle_1 ?_
  refine lv_istore_n (lv' := [(1, .int 0), (0, .ref a)]) hx hb dX1_settle_4 rfl hl (by decide) rfl (fun ls hl => ?_)
  refine lv_iload_n hx hb dX1_settle_5 rfl (lv_at hl 0 rfl) ?_
  refine lv_aload_n hx hb dX1_settle_6 rfl (lv_at hl 1 rfl) ?_
  refine va_get (D := G.1) (ci := 1) (v := .ref bk) (C := RX1) (T := TX1) (N := 5) hx hb hts inlX1 hown hG.1 hP 0 rfl rfl 0 (by decide) (hts (.fieldLink RX1 12 "SwornLists$Court" "book" "LSwornLists$Book;") w_40) (fun _ h9 => h9) rfl dX1_settle_7 ?_
  refine va_getN (D := G.1) (ci := 0) (v := .ref tr) (C := RX0) (T := TX0) (N := 9) (host := RX10) hx hb hts inlX0 hown hG.1 hP 1 rfl rfl 4 (by decide) (va_Nw.use rfl (hG.2.1 (.fieldLinkNest RX1 43 RX0 "trials" "LSwornLists$Rows;" RX10) (List.mem_of_getElem? (i := 6) rfl))) (fun _ h9 => h9) rfl dX1_settle_10 ?_
  have hPc := hP.sub (ws' := [(tr, eO 5 [.int 10, .int 70, .ref tra, .int 0])]) [2] rfl
  refine rd_calli (va_runV (As := []) (rest := [.int 0]) ⟨hx, hb, hml, hown, hts⟩ (c_size0 l G tr 10 70 tra ) (my_cwV hts ok_X5_size w_388 rfl rfl ⟨Nat.le_of_ble_eq_true rfl, Nat.le_of_ble_eq_true rfl⟩) ⟨rP.blind, va_recv hG.1 hPc (ci := 5) (q0 := 0) rfl rfl, fun U hU hW => ⟨rfl, by rw [hU]; exact hPc, kG.warm hW hG⟩⟩ rfl rfl hl.1 rfl (lv_room (Nat.le_of_ble_eq_true rfl)) dX1_settle_13 ⟨Nat.le_of_ble_eq_true rfl, Nat.le_of_ble_eq_true rfl⟩) (fun r hr9 => ?_)
  subst hr9
  refine lv_icmp_ge (tgt := 66) hx hb dX1_settle_16 (by decide) (fun c_16 => ?_) (fun c_16 => absurd (by decide) c_16)
  refine lv_aload_n hx hb dX1_settle_66 rfl (lv_at hl 1 rfl) ?_
  refine lv_aload_n hx hb dX1_settle_67 rfl (lv_at hl 1 rfl) ?_
  refine va_get (D := G.1) (ci := 1) (v := .ref bk) (C := RX1) (T := TX1) (N := 5) hx hb hts inlX1 hown hG.1 hP 0 rfl rfl 0 (by decide) (hts (.fieldLink RX1 12 "SwornLists$Court" "book" "LSwornLists$Book;") w_40) (fun _ h9 => h9) rfl dX1_settle_68 ?_
  refine va_getN (D := G.1) (ci := 0) (v := .ref tr) (C := RX0) (T := TX0) (N := 9) (host := RX10) hx hb hts inlX0 hown hG.1 hP 1 rfl rfl 4 (by decide) (va_Nw.use rfl (hG.2.1 (.fieldLinkNest RX1 43 RX0 "trials" "LSwornLists$Rows;" RX10) (List.mem_of_getElem? (i := 6) rfl))) (fun _ h9 => h9) rfl dX1_settle_71 ?_
  have hPc := hP.sub (ws' := [(tr, eO 5 [.int 10, .int 70, .ref tra, .int 0])]) [2] rfl
  refine rd_calli (va_runV (As := []) (rest := [.ref a]) ⟨hx, hb, hml, hown, hts⟩ (c_size0 l G tr 10 70 tra ) (my_cwV hts ok_X5_size w_388 rfl rfl ⟨Nat.le_of_ble_eq_true rfl, Nat.le_of_ble_eq_true rfl⟩) ⟨rP.blind, va_recv hG.1 hPc (ci := 5) (q0 := 0) rfl rfl, fun U hU hW => ⟨rfl, by rw [hU]; exact hPc, kG.warm hW hG⟩⟩ rfl rfl hl.1 rfl (lv_room (Nat.le_of_ble_eq_true rfl)) dX1_settle_74 ⟨Nat.le_of_ble_eq_true rfl, Nat.le_of_ble_eq_true rfl⟩) (fun r hr9 => ?_)
  subst hr9
  refine va_put (D := G.1) (ci := 1) (v := .int 0) (ty := .int) (C := RX1) (T := TX1) (N := 5) hx hb hts inlX1 tyX1 tyX1_ok nmX1 hown hG.1 hP hD hS 0 rfl rfl 4 (by decide) (hts (.fieldLink RX1 33 "SwornLists$Court" "settled" "I") w_150) (fun _ h9 => h9) rfl (by decide +kernel) rfl rfl (Nat.le_of_ble_eq_true rfl) dX1_settle_77 (fun H locs hP hD hS => ?_)
  have hP : va_P G.1 vwCl [(a, eO 1 [.ref bk, .ref hs, .ref sp, .ref vl, .int 0]), (bk, eO 0 [.ref pe, .ref fa, .ref ro, .ref ac, .ref tr, .ref la, .ref tx, .int 5, .int 20]), (tr, eO 5 [.int 10, .int 70, .ref tra, .int 0])] H := hP
  have hD : va_D A [(a, eO 1 [.ref bk, .ref hs, .ref sp, .ref vl, .int 0]), (bk, eO 0 [.ref pe, .ref fa, .ref ro, .ref ac, .ref tr, .ref la, .ref tx, .int 5, .int 20]), (tr, eO 5 [.int 10, .int 70, .ref tra, .int 0])] := hD
  have hP9 := hP.sub (ws' := [(a, eO 1 [.ref bk, .ref hs, .ref sp, .ref vl, .int 0]), (bk, eO 0 [.ref pe, .ref fa, .ref ro, .ref ac, .ref tr, .ref la, .ref tx, .int 5, .int 20]), (tr, eO 5 [.int 10, .int 70, .ref tra, .int 0])]) [0, 1, 2] rfl
  have hD9 := hD.sub (ws' := [(a, eO 1 [.ref bk, .ref hs, .ref sp, .ref vl, .int 0]), (bk, eO 0 [.ref pe, .ref fa, .ref ro, .ref ac, .ref tr, .ref la, .ref tx, .int 5, .int 20]), (tr, eO 5 [.int 10, .int 70, .ref tra, .int 0])]) [0, 1, 2] (by decide) rfl
  exact W.vret hx hb hr (fun t ht hW => ⟨⟨(), rfl, (trivial), ⟨by rw [ht]; exact hP9, hD9⟩⟩, hS.F ht⟩) hS.2.2 dX1_settle_80
set_option maxHeartbeats 4000000 in
set_option maxRecDepth 100000 in
theorem c_sworn0 (l : Launch) (G : gW) (a : Nat) (bk : Nat) (hs : Nat) (sp : Nat) (vl : Nat) (pe : Nat) (fa : Nat) (ro : Nat) (ac : Nat) (tr : Nat) (la : Nat) (tx : Nat) (tra : Nat)  : Met l yX1_sworn (wsT yX1_sworn cX1_sworn 3 (some .int)) ({ frames := 1, cells := 0, slots := 0, locals := 20 }) (rP G [.ref a] [(a, eO 1 [.ref bk, .ref hs, .ref sp, .ref vl, .int 0]), (bk, eO 0 [.ref pe, .ref fa, .ref ro, .ref ac, .ref tr, .ref la, .ref tx, .int 5, .int 20]), (tr, eO 5 [.int 10, .int 70, .ref tra, .int 0])]) (rQi (fun r => r = 0)) 0 0 fr0 := by
  refine Met.ofW (cc := cX1_sworn) (maxL := 3) (ret := (some .int)) (by decide) rfl ?_
  intro p e s m args below meth c s₁ B hml hv
  obtain ⟨rfl, hP, hG⟩ := hv
  have hx := B.exec
  have hb := B.bytes
  have hr := B.returns
  have hts := my_hts (atoms_spec (ws := wsT yX1_sworn cX1_sworn 3 (some .int)) B.pre)
  have hown : s.vm.findClass RX1 = some m.cls := findClass_of_methodNamed B.named
  have hlocks := B.notSynchronized
  have hP : va_P G.1 vwCl [(a, eO 1 [.ref bk, .ref hs, .ref sp, .ref vl, .int 0]), (bk, eO 0 [.ref pe, .ref fa, .ref ro, .ref ac, .ref tr, .ref la, .ref tx, .int 5, .int 20]), (tr, eO 5 [.int 10, .int 70, .ref tra, .int 0])] s.heap := hP
  have hl := lv_entry ([.ref a]) (n := 3) (Nat.le_of_ble_eq_true rfl)
  rw [lg_entry_eq]
  generalize (lg_sl ([.ref a]) ++ List.replicate (3 - (lg_sl ([.ref a])).length) Slot.unset).toArray = ls at hl ⊢
  have hl : lv_has ls 3 [(0, .ref a)] := hl
  refine lv_iconst (v := 0) hx hb dX1_sworn_0 (by decide) ?_
  refine lv_istore_n (lv' := [(1, .int 0), (0, .ref a)]) hx hb dX1_sworn_1 rfl hl (by decide) rfl (fun ls hl => ?_)
  refine lv_iconst (v := 0) hx hb dX1_sworn_2 (by decide) ?_
  refine lv_istore_n (lv' := [(2, .int 0), (1, .int 0), (0, .ref a)]) hx hb dX1_sworn_3 rfl hl (by decide) rfl (fun ls hl => ?_)
  refine lv_iload_n hx hb dX1_sworn_4 rfl (lv_at hl 0 rfl) ?_
  refine lv_aload_n hx hb dX1_sworn_5 rfl (lv_at hl 2 rfl) ?_
  refine va_get (D := G.1) (ci := 1) (v := .ref bk) (C := RX1) (T := TX1) (N := 5) hx hb hts inlX1 hown hG.1 hP 0 rfl rfl 0 (by decide) (hts (.fieldLink RX1 12 "SwornLists$Court" "book" "LSwornLists$Book;") w_40) (fun _ h9 => h9) rfl dX1_sworn_6 ?_
  refine va_getN (D := G.1) (ci := 0) (v := .ref tr) (C := RX0) (T := TX0) (N := 9) (host := RX10) hx hb hts inlX0 hown hG.1 hP 1 rfl rfl 4 (by decide) (va_Nw.use rfl (hG.2.1 (.fieldLinkNest RX1 43 RX0 "trials" "LSwornLists$Rows;" RX10) (List.mem_of_getElem? (i := 6) rfl))) (fun _ h9 => h9) rfl dX1_sworn_9 ?_
  have hPc := hP.sub (ws' := [(tr, eO 5 [.int 10, .int 70, .ref tra, .int 0])]) [2] rfl
  refine rd_calli (va_runV (As := []) (rest := [.int 0]) ⟨hx, hb, hml, hown, hts⟩ (c_size0 l G tr 10 70 tra ) (my_cwV hts ok_X5_size w_388 rfl rfl ⟨Nat.le_of_ble_eq_true rfl, Nat.le_of_ble_eq_true rfl⟩) ⟨rP.blind, va_recv hG.1 hPc (ci := 5) (q0 := 0) rfl rfl, fun U hU hW => ⟨rfl, by rw [hU]; exact hPc, kG.warm hW hG⟩⟩ rfl rfl hl.1 rfl (lv_room (Nat.le_of_ble_eq_true rfl)) dX1_sworn_12 ⟨Nat.le_of_ble_eq_true rfl, Nat.le_of_ble_eq_true rfl⟩) (fun r hr9 => ?_)
  subst hr9
  refine lv_icmp_ge (tgt := 38) hx hb dX1_sworn_15 (by decide) (fun c_15 => ?_) (fun c_15 => absurd (by decide) c_15)
  refine lv_iload_n hx hb dX1_sworn_38 rfl (lv_at hl 1 rfl) ?_
  exact W.iret (v := 0) hx hb hr (fun t ht hW => ⟨_, rfl, (rfl), ht⟩) (fun _ h => absurd h List.not_mem_nil) dX1_sworn_39
set_option maxHeartbeats 4000000 in
set_option maxRecDepth 100000 in
theorem c_everyone0 (l : Launch) (G : gW) (bk : Nat) (pe : Nat) (fa : Nat) (ro : Nat) (ac : Nat) (tr : Nat) (la : Nat) (tx : Nat) (pea : Nat)  : Met l yX0_everyone (wsT yX0_everyone cX0_everyone 1 (some .int)) ({ frames := 1, cells := 0, slots := 0, locals := 20 }) (rP G [.ref bk] [(bk, eO 0 [.ref pe, .ref fa, .ref ro, .ref ac, .ref tr, .ref la, .ref tx, .int 5, .int 20]), (pe, eO 5 [.int 30, .int 4, .ref pea, .int 0])]) (rQi (fun r => r = 0)) 0 0 fr0 := by
  refine Met.ofW (cc := cX0_everyone) (maxL := 1) (ret := (some .int)) (by decide) rfl ?_
  intro p e s m args below meth c s₁ B hml hv
  obtain ⟨rfl, hP, hG⟩ := hv
  have hx := B.exec
  have hb := B.bytes
  have hr := B.returns
  have hts := my_hts (atoms_spec (ws := wsT yX0_everyone cX0_everyone 1 (some .int)) B.pre)
  have hown : s.vm.findClass RX0 = some m.cls := findClass_of_methodNamed B.named
  have hlocks := B.notSynchronized
  have hP : va_P G.1 vwCl [(bk, eO 0 [.ref pe, .ref fa, .ref ro, .ref ac, .ref tr, .ref la, .ref tx, .int 5, .int 20]), (pe, eO 5 [.int 30, .int 4, .ref pea, .int 0])] s.heap := hP
  have hl := lv_entry ([.ref bk]) (n := 1) (Nat.le_of_ble_eq_true rfl)
  rw [lg_entry_eq]
  generalize (lg_sl ([.ref bk]) ++ List.replicate (1 - (lg_sl ([.ref bk])).length) Slot.unset).toArray = ls at hl ⊢
  have hl : lv_has ls 1 [(0, .ref bk)] := hl
  refine lv_aload_n hx hb dX0_everyone_0 rfl (lv_at hl 0 rfl) ?_
  refine va_get (D := G.1) (ci := 0) (v := .ref pe) (C := RX0) (T := TX0) (N := 9) hx hb hts inlX0 hown hG.1 hP 0 rfl rfl 0 (by decide) (hts (.fieldLink RX0 14 "SwornLists$Book" "people" "LSwornLists$Rows;") w_54) (fun _ h9 => h9) rfl dX0_everyone_1 ?_
  have hPc := hP.sub (ws' := [(pe, eO 5 [.int 30, .int 4, .ref pea, .int 0])]) [1] rfl
  refine rd_calli (va_runV (As := []) (rest := []) ⟨hx, hb, hml, hown, hts⟩ (c_size0 l G pe 30 4 pea ) (my_cwV hts ok_X5_size w_202 rfl rfl ⟨Nat.le_of_ble_eq_true rfl, Nat.le_of_ble_eq_true rfl⟩) ⟨rP.blind, va_recv hG.1 hPc (ci := 5) (q0 := 0) rfl rfl, fun U hU hW => ⟨rfl, by rw [hU]; exact hPc, kG.warm hW hG⟩⟩ rfl rfl hl.1 rfl (lv_room (Nat.le_of_ble_eq_true rfl)) dX0_everyone_4 ⟨Nat.le_of_ble_eq_true rfl, Nat.le_of_ble_eq_true rfl⟩) (fun r hr9 => ?_)
  subst hr9
  have hPc := hP.sub (ws' := []) [] rfl
  refine rd_calli (va_runSN (As := [.int 0]) (rest := []) ⟨hx, hb, hml, hown, hts⟩ (c_lowBits0 l G  ) (⟨my_cn hts ok_X10_lowBits.1 (hG.2.1 (.methodLinkNest RX0 62 yX10_lowBits RX10) (List.mem_of_getElem? (i := 29) rfl)) rfl rfl ⟨Nat.le_of_ble_eq_true rfl, Nat.le_of_ble_eq_true rfl⟩, hts _ ok_X10_lowBits.2.2.1, trivial⟩) ⟨rP.blind, fun U hU hW => ⟨rfl, by rw [hU]; exact hPc, kG.warm hW hG⟩⟩ rfl rfl hl.1 rfl (lv_room (Nat.le_of_ble_eq_true rfl)) dX0_everyone_7 ⟨Nat.le_of_ble_eq_true rfl, Nat.le_of_ble_eq_true rfl⟩) (fun r hr9 => ?_)
  subst hr9
  exact W.iret (v := 0) hx hb hr (fun t ht hW => ⟨_, rfl, (rfl), ht⟩) (fun _ h => absurd h List.not_mem_nil) dX0_everyone_10
set_option maxHeartbeats 4000000 in
set_option maxRecDepth 100000 in
theorem c_listedOn0 (l : Launch) (G : gW) (bk : Nat) (pe : Nat) (fa : Nat) (ro : Nat) (ac : Nat) (tr : Nat) (la : Nat) (tx : Nat) (roa : Nat) (pea : Nat) (a1 : Int32)  : Met l yX0_listedOn (wsT yX0_listedOn cX0_listedOn 5 (some .int)) ({ frames := 2, cells := 0, slots := 0, locals := 40 }) (rP G [.ref bk, .int a1] [(bk, eO 0 [.ref pe, .ref fa, .ref ro, .ref ac, .ref tr, .ref la, .ref tx, .int 5, .int 20]), (ro, eO 5 [.int 4, .int 3, .ref roa, .int 0]), (pe, eO 5 [.int 30, .int 4, .ref pea, .int 0])]) (rQi (fun r => r = 0)) 0 0 fr0 := by
  refine Met.ofW (cc := cX0_listedOn) (maxL := 5) (ret := (some .int)) (by decide) rfl ?_
  intro p e s m args below meth c s₁ B hml hv
  obtain ⟨rfl, hP, hG⟩ := hv
  have hx := B.exec
  have hb := B.bytes
  have hr := B.returns
  have hts := my_hts (atoms_spec (ws := wsT yX0_listedOn cX0_listedOn 5 (some .int)) B.pre)
  have hown : s.vm.findClass RX0 = some m.cls := findClass_of_methodNamed B.named
  have hlocks := B.notSynchronized
  have hP : va_P G.1 vwCl [(bk, eO 0 [.ref pe, .ref fa, .ref ro, .ref ac, .ref tr, .ref la, .ref tx, .int 5, .int 20]), (ro, eO 5 [.int 4, .int 3, .ref roa, .int 0]), (pe, eO 5 [.int 30, .int 4, .ref pea, .int 0])] s.heap := hP
  have hl := lv_entry ([.ref bk, .int a1]) (n := 5) (Nat.le_of_ble_eq_true rfl)
  rw [lg_entry_eq]
  generalize (lg_sl ([.ref bk, .int a1]) ++ List.replicate (5 - (lg_sl ([.ref bk, .int a1])).length) Slot.unset).toArray = ls at hl ⊢
  have hl : lv_has ls 5 [(0, .ref bk), (1, .int a1)] := hl
  refine lv_iconst (v := (-1)) hx hb dX0_listedOn_0 (by decide) ?_
  refine lv_istore_n (lv' := [(2, .int (-1)), (0, .ref bk), (1, .int a1)]) hx hb dX0_listedOn_1 rfl hl (by decide) rfl (fun ls hl => ?_)
  refine lv_iconst (v := 0) hx hb dX0_listedOn_2 (by decide) ?_
  refine lv_istore_n (lv' := [(3, .int 0), (2, .int (-1)), (0, .ref bk), (1, .int a1)]) hx hb dX0_listedOn_3 rfl hl (by decide) rfl (fun ls hl => ?_)
  refine lv_iload_n hx hb dX0_listedOn_4 rfl (lv_at hl 0 rfl) ?_
  refine lv_aload_n hx hb dX0_listedOn_5 rfl (lv_at hl 2 rfl) ?_
  refine va_get (D := G.1) (ci := 0) (v := .ref ro) (C := RX0) (T := TX0) (N := 9) hx hb hts inlX0 hown hG.1 hP 0 rfl rfl 2 (by decide) (hts (.fieldLink RX0 23 "SwornLists$Book" "rolls" "LSwornLists$Rows;") w_56) (fun _ h9 => h9) rfl dX0_listedOn_6 ?_
  have hPc := hP.sub (ws' := [(ro, eO 5 [.int 4, .int 3, .ref roa, .int 0])]) [1] rfl
  refine rd_calli (va_runV (As := []) (rest := [.int 0]) ⟨hx, hb, hml, hown, hts⟩ (c_size0 l G ro 4 3 roa ) (my_cwV hts ok_X5_size w_202 rfl rfl ⟨Nat.le_of_ble_eq_true rfl, Nat.le_of_ble_eq_true rfl⟩) ⟨rP.blind, va_recv hG.1 hPc (ci := 5) (q0 := 0) rfl rfl, fun U hU hW => ⟨rfl, by rw [hU]; exact hPc, kG.warm hW hG⟩⟩ rfl rfl hl.1 rfl (lv_room (Nat.le_of_ble_eq_true rfl)) dX0_listedOn_9 ⟨Nat.le_of_ble_eq_true rfl, Nat.le_of_ble_eq_true rfl⟩) (fun r hr9 => ?_)
  subst hr9
  refine lv_icmp_ge (tgt := 74) hx hb dX0_listedOn_12 (by decide) (fun c_12 => ?_) (fun c_12 => absurd (by decide) c_12)
  refine lv_iload_n hx hb dX0_listedOn_74 rfl (lv_at hl 1 rfl) ?_
  refine lv_iconst (v := (-1)) hx hb dX0_listedOn_75 (by decide) ?_
  refine lv_icmp_ne (tgt := 86) hx hb dX0_listedOn_76 (by decide) (fun c_76 => absurd (by decide) c_76) (fun c_76 => ?_)
  refine lv_aload_n hx hb dX0_listedOn_79 rfl (lv_at hl 2 rfl) ?_
  have hPc := hP.sub (ws' := [(bk, eO 0 [.ref pe, .ref fa, .ref ro, .ref ac, .ref tr, .ref la, .ref tx, .int 5, .int 20]), (pe, eO 5 [.int 30, .int 4, .ref pea, .int 0])]) [0, 2] rfl
  refine rd_calli (va_runV (As := []) (rest := []) ⟨hx, hb, hml, hown, hts⟩ (c_everyone0 l G bk pe fa ro ac tr la tx pea ) (my_cwV hts ok_X0_everyone w_229 rfl rfl ⟨Nat.le_of_ble_eq_true rfl, Nat.le_of_ble_eq_true rfl⟩) ⟨rP.blind, va_recv hG.1 hPc (ci := 0) (q0 := 0) rfl rfl, fun U hU hW => ⟨rfl, by rw [hU]; exact hPc, kG.warm hW hG⟩⟩ rfl rfl hl.1 rfl (lv_room (Nat.le_of_ble_eq_true rfl)) dX0_listedOn_80 ⟨Nat.le_of_ble_eq_true rfl, Nat.le_of_ble_eq_true rfl⟩) (fun r hr9 => ?_)
  subst hr9
  refine lv_goto (tgt := 95) hx hb dX0_listedOn_83 (by decide) ?_
  exact W.iret (v := 0) hx hb hr (fun t ht hW => ⟨_, rfl, (rfl), ht⟩) (fun _ h => absurd h List.not_mem_nil) dX0_listedOn_95
set_option maxHeartbeats 4000000 in
set_option maxRecDepth 100000 in
theorem c_peopleWith0 (l : Launch) (G : gW) (bk : Nat) (pe : Nat) (fa : Nat) (ro : Nat) (ac : Nat) (tr : Nat) (la : Nat) (tx : Nat) (pea : Nat) (a1 : Int32) (a2 : Int32)  : Met l yX0_peopleWith (wsT yX0_peopleWith cX0_peopleWith 5 (some .int)) ({ frames := 1, cells := 0, slots := 0, locals := 20 }) (rP G [.ref bk, .int a1, .int a2] [(bk, eO 0 [.ref pe, .ref fa, .ref ro, .ref ac, .ref tr, .ref la, .ref tx, .int 5, .int 20]), (pe, eO 5 [.int 30, .int 4, .ref pea, .int 0])]) (rQi (fun r => r = 0)) 0 0 fr0 := by
  refine Met.ofW (cc := cX0_peopleWith) (maxL := 5) (ret := (some .int)) (by decide) rfl ?_
  intro p e s m args below meth c s₁ B hml hv
  obtain ⟨rfl, hP, hG⟩ := hv
  have hx := B.exec
  have hb := B.bytes
  have hr := B.returns
  have hts := my_hts (atoms_spec (ws := wsT yX0_peopleWith cX0_peopleWith 5 (some .int)) B.pre)
  have hown : s.vm.findClass RX0 = some m.cls := findClass_of_methodNamed B.named
  have hlocks := B.notSynchronized
  have hP : va_P G.1 vwCl [(bk, eO 0 [.ref pe, .ref fa, .ref ro, .ref ac, .ref tr, .ref la, .ref tx, .int 5, .int 20]), (pe, eO 5 [.int 30, .int 4, .ref pea, .int 0])] s.heap := hP
  have hl := lv_entry ([.ref bk, .int a1, .int a2]) (n := 5) (Nat.le_of_ble_eq_true rfl)
  rw [lg_entry_eq]
  generalize (lg_sl ([.ref bk, .int a1, .int a2]) ++ List.replicate (5 - (lg_sl ([.ref bk, .int a1, .int a2])).length) Slot.unset).toArray = ls at hl ⊢
  have hl : lv_has ls 5 [(0, .ref bk), (1, .int a1), (2, .int a2)] := hl
  refine lv_iconst (v := 0) hx hb dX0_peopleWith_0 (by decide) ?_
  refine lv_istore_n (lv' := [(3, .int 0), (0, .ref bk), (1, .int a1), (2, .int a2)]) hx hb dX0_peopleWith_1 rfl hl (by decide) rfl (fun ls hl => ?_)
  refine lv_iconst (v := 0) hx hb dX0_peopleWith_2 (by decide) ?_
  refine lv_istore (lv' := [(4, .int 0), (3, .int 0), (0, .ref bk), (1, .int a1), (2, .int a2)]) hx hb dX0_peopleWith_3 hl (by decide) rfl (fun ls hl => ?_)
  refine lv_iload hx hb dX0_peopleWith_5 (lv_at hl 0 rfl) ?_
  refine lv_aload_n hx hb dX0_peopleWith_7 rfl (lv_at hl 2 rfl) ?_
  refine va_get (D := G.1) (ci := 0) (v := .ref pe) (C := RX0) (T := TX0) (N := 9) hx hb hts inlX0 hown hG.1 hP 0 rfl rfl 0 (by decide) (hts (.fieldLink RX0 14 "SwornLists$Book" "people" "LSwornLists$Rows;") w_54) (fun _ h9 => h9) rfl dX0_peopleWith_8 ?_
  have hPc := hP.sub (ws' := [(pe, eO 5 [.int 30, .int 4, .ref pea, .int 0])]) [1] rfl
  refine rd_calli (va_runV (As := []) (rest := [.int 0]) ⟨hx, hb, hml, hown, hts⟩ (c_size0 l G pe 30 4 pea ) (my_cwV hts ok_X5_size w_202 rfl rfl ⟨Nat.le_of_ble_eq_true rfl, Nat.le_of_ble_eq_true rfl⟩) ⟨rP.blind, va_recv hG.1 hPc (ci := 5) (q0 := 0) rfl rfl, fun U hU hW => ⟨rfl, by rw [hU]; exact hPc, kG.warm hW hG⟩⟩ rfl rfl hl.1 rfl (lv_room (Nat.le_of_ble_eq_true rfl)) dX0_peopleWith_11 ⟨Nat.le_of_ble_eq_true rfl, Nat.le_of_ble_eq_true rfl⟩) (fun r hr9 => ?_)
  subst hr9
  refine lv_icmp_ge (tgt := 44) hx hb dX0_peopleWith_14 (by decide) (fun c_14 => ?_) (fun c_14 => absurd (by decide) c_14)
  refine lv_iload_n hx hb dX0_peopleWith_44 rfl (lv_at hl 1 rfl) ?_
  exact W.iret (v := 0) hx hb hr (fun t ht hW => ⟨_, rfl, (rfl), ht⟩) (fun _ h => absurd h List.not_mem_nil) dX0_peopleWith_45
set_option maxHeartbeats 4000000 in
set_option maxRecDepth 100000 in
theorem c_inForce0 (l : Launch) (G : gW) (bk : Nat) (pe : Nat) (fa : Nat) (ro : Nat) (ac : Nat) (tr : Nat) (la : Nat) (tx : Nat) (aca : Nat) (a1 : Int32) (a2 : Int32)  : Met l yX0_inForce (wsT yX0_inForce cX0_inForce 7 (some .int)) ({ frames := 1, cells := 0, slots := 0, locals := 20 }) (rP G [.ref bk, .int a1, .int a2] [(bk, eO 0 [.ref pe, .ref fa, .ref ro, .ref ac, .ref tr, .ref la, .ref tx, .int 5, .int 20]), (ac, eO 5 [.int 20, .int 3, .ref aca, .int 0])]) (rQi (fun r => r = (-1))) 0 0 fr0 := by
  refine Met.ofW (cc := cX0_inForce) (maxL := 7) (ret := (some .int)) (by decide) rfl ?_
  intro p e s m args below meth c s₁ B hml hv
  obtain ⟨rfl, hP, hG⟩ := hv
  have hx := B.exec
  have hb := B.bytes
  have hr := B.returns
  have hts := my_hts (atoms_spec (ws := wsT yX0_inForce cX0_inForce 7 (some .int)) B.pre)
  have hown : s.vm.findClass RX0 = some m.cls := findClass_of_methodNamed B.named
  have hlocks := B.notSynchronized
  have hP : va_P G.1 vwCl [(bk, eO 0 [.ref pe, .ref fa, .ref ro, .ref ac, .ref tr, .ref la, .ref tx, .int 5, .int 20]), (ac, eO 5 [.int 20, .int 3, .ref aca, .int 0])] s.heap := hP
  have hl := lv_entry ([.ref bk, .int a1, .int a2]) (n := 7) (Nat.le_of_ble_eq_true rfl)
  rw [lg_entry_eq]
  generalize (lg_sl ([.ref bk, .int a1, .int a2]) ++ List.replicate (7 - (lg_sl ([.ref bk, .int a1, .int a2])).length) Slot.unset).toArray = ls at hl ⊢
  have hl : lv_has ls 7 [(0, .ref bk), (1, .int a1), (2, .int a2)] := hl
  refine lv_iconst (v := (-1)) hx hb dX0_inForce_0 (by decide) ?_
  refine lv_istore_n (lv' := [(3, .int (-1)), (0, .ref bk), (1, .int a1), (2, .int a2)]) hx hb dX0_inForce_1 rfl hl (by decide) rfl (fun ls hl => ?_)
  refine lv_iconst (v := 0) hx hb dX0_inForce_2 (by decide) ?_
  refine lv_istore (lv' := [(4, .int 0), (3, .int (-1)), (0, .ref bk), (1, .int a1), (2, .int a2)]) hx hb dX0_inForce_3 hl (by decide) rfl (fun ls hl => ?_)
  refine lv_iload hx hb dX0_inForce_5 (lv_at hl 0 rfl) ?_
  refine lv_aload_n hx hb dX0_inForce_7 rfl (lv_at hl 2 rfl) ?_
  refine va_get (D := G.1) (ci := 0) (v := .ref ac) (C := RX0) (T := TX0) (N := 9) hx hb hts inlX0 hown hG.1 hP 0 rfl rfl 3 (by decide) (hts (.fieldLink RX0 26 "SwornLists$Book" "acts" "LSwornLists$Rows;") w_57) (fun _ h9 => h9) rfl dX0_inForce_8 ?_
  have hPc := hP.sub (ws' := [(ac, eO 5 [.int 20, .int 3, .ref aca, .int 0])]) [1] rfl
  refine rd_calli (va_runV (As := []) (rest := [.int 0]) ⟨hx, hb, hml, hown, hts⟩ (c_size0 l G ac 20 3 aca ) (my_cwV hts ok_X5_size w_202 rfl rfl ⟨Nat.le_of_ble_eq_true rfl, Nat.le_of_ble_eq_true rfl⟩) ⟨rP.blind, va_recv hG.1 hPc (ci := 5) (q0 := 0) rfl rfl, fun U hU hW => ⟨rfl, by rw [hU]; exact hPc, kG.warm hW hG⟩⟩ rfl rfl hl.1 rfl (lv_room (Nat.le_of_ble_eq_true rfl)) dX0_inForce_11 ⟨Nat.le_of_ble_eq_true rfl, Nat.le_of_ble_eq_true rfl⟩) (fun r hr9 => ?_)
  subst hr9
  refine lv_icmp_ge (tgt := 117) hx hb dX0_inForce_14 (by decide) (fun c_14 => ?_) (fun c_14 => absurd (by decide) c_14)
  refine lv_iload_n hx hb dX0_inForce_117 rfl (lv_at hl 1 rfl) ?_
  exact W.iret (v := (-1)) hx hb hr (fun t ht hW => ⟨_, rfl, (rfl), ht⟩) (fun _ h => absurd h List.not_mem_nil) dX0_inForce_118
set_option maxHeartbeats 4000000 in
set_option maxRecDepth 100000 in
theorem c_lawOf0 (l : Launch) (G : gW) (bk : Nat) (pe : Nat) (fa : Nat) (ro : Nat) (ac : Nat) (tr : Nat) (la : Nat) (tx : Nat) (aca : Nat) (a1 : Int32) (a2 : Int32)  : Met l yX0_lawOf (wsT yX0_lawOf cX0_lawOf 4 (some (.object "SwornLists$Text"))) ({ frames := 2, cells := 0, slots := 0, locals := 46 }) (rP G [.ref bk, .int a1, .int a2] [(bk, eO 0 [.ref pe, .ref fa, .ref ro, .ref ac, .ref tr, .ref la, .ref tx, .int 5, .int 20]), (ac, eO 5 [.int 20, .int 3, .ref aca, .int 0])]) (rQa (fun r => r = .null)) 0 0 fr0 := by
  refine Met.ofW (cc := cX0_lawOf) (maxL := 4) (ret := (some (.object "SwornLists$Text"))) (by decide) rfl ?_
  intro p e s m args below meth c s₁ B hml hv
  obtain ⟨rfl, hP, hG⟩ := hv
  have hx := B.exec
  have hb := B.bytes
  have hr := B.returns
  have hts := my_hts (atoms_spec (ws := wsT yX0_lawOf cX0_lawOf 4 (some (.object "SwornLists$Text"))) B.pre)
  have hown : s.vm.findClass RX0 = some m.cls := findClass_of_methodNamed B.named
  have hlocks := B.notSynchronized
  have hP : va_P G.1 vwCl [(bk, eO 0 [.ref pe, .ref fa, .ref ro, .ref ac, .ref tr, .ref la, .ref tx, .int 5, .int 20]), (ac, eO 5 [.int 20, .int 3, .ref aca, .int 0])] s.heap := hP
  have hl := lv_entry ([.ref bk, .int a1, .int a2]) (n := 4) (Nat.le_of_ble_eq_true rfl)
  rw [lg_entry_eq]
  generalize (lg_sl ([.ref bk, .int a1, .int a2]) ++ List.replicate (4 - (lg_sl ([.ref bk, .int a1, .int a2])).length) Slot.unset).toArray = ls at hl ⊢
  have hl : lv_has ls 4 [(0, .ref bk), (1, .int a1), (2, .int a2)] := hl
  refine lv_aload_n hx hb dX0_lawOf_0 rfl (lv_at hl 0 rfl) ?_
  refine lv_iload_n hx hb dX0_lawOf_1 rfl (lv_at hl 1 rfl) ?_
  refine lv_iload_n hx hb dX0_lawOf_2 rfl (lv_at hl 2 rfl) ?_
  have hPc := hP.sub (ws' := [(bk, eO 0 [.ref pe, .ref fa, .ref ro, .ref ac, .ref tr, .ref la, .ref tx, .int 5, .int 20]), (ac, eO 5 [.int 20, .int 3, .ref aca, .int 0])]) [0, 1] rfl
  refine rd_calli (va_runV (As := [.int a1, .int a2]) (rest := []) ⟨hx, hb, hml, hown, hts⟩ (c_inForce0 l G bk pe fa ro ac tr la tx aca a1 a2 ) (my_cwV hts ok_X0_inForce w_398 rfl rfl ⟨Nat.le_of_ble_eq_true rfl, Nat.le_of_ble_eq_true rfl⟩) ⟨rP.blind, va_recv hG.1 hPc (ci := 0) (q0 := 0) rfl rfl, fun U hU hW => ⟨rfl, by rw [hU]; exact hPc, kG.warm hW hG⟩⟩ rfl rfl hl.1 rfl (lv_room (Nat.le_of_ble_eq_true rfl)) dX0_lawOf_3 ⟨Nat.le_of_ble_eq_true rfl, Nat.le_of_ble_eq_true rfl⟩) (fun r hr9 => ?_)
  subst hr9
  refine lv_istore_n (lv' := [(3, .int (-1)), (0, .ref bk), (1, .int a1), (2, .int a2)]) hx hb dX0_lawOf_6 rfl hl (by decide) rfl (fun ls hl => ?_)
  refine lv_iload_n hx hb dX0_lawOf_7 rfl (lv_at hl 0 rfl) ?_
  refine lv_iconst (v := (-1)) hx hb dX0_lawOf_8 (by decide) ?_
  refine lv_icmp_ne (tgt := 16) hx hb dX0_lawOf_9 (by decide) (fun c_9 => absurd (by decide) c_9) (fun c_9 => ?_)
  refine lv_null hx hb dX0_lawOf_12 ?_
  refine lv_goto (tgt := 24) hx hb dX0_lawOf_13 (by decide) ?_
  exact W.aret (v := .null) hx hb hr (Or.inl ⟨_, rfl⟩) (Or.inl rfl) (fun t ht hW => ⟨_, rfl, (rfl), ht⟩) (fun _ h => absurd h List.not_mem_nil) dX0_lawOf_24
set_option maxHeartbeats 4000000 in
set_option maxRecDepth 100000 in
theorem c_truths0 (l : Launch) (G : gW) (a : Nat) (bk : Nat) (hs : Nat) (sp : Nat) (vl : Nat) (a1 : Int32) (a2 : Int32)  : Met l yX1_truths (wsT yX1_truths cX1_truths 7 (some .int)) ({ frames := 0, cells := 0, slots := 0, locals := 0 }) (rP G [.ref a, .null, .int 0, .int a1, .int a2] [(a, eO 1 [.ref bk, .ref hs, .ref sp, .ref vl, .int 0])]) (rQi (fun r => r = a2)) 0 0 fr0 := by
  refine Met.ofW (cc := cX1_truths) (maxL := 7) (ret := (some .int)) (by decide) rfl ?_
  intro p e s m args below meth c s₁ B hml hv
  obtain ⟨rfl, hP, hG⟩ := hv
  have hx := B.exec
  have hb := B.bytes
  have hr := B.returns
  have hts := my_hts (atoms_spec (ws := wsT yX1_truths cX1_truths 7 (some .int)) B.pre)
  have hown : s.vm.findClass RX1 = some m.cls := findClass_of_methodNamed B.named
  have hlocks := B.notSynchronized
  have hP : va_P G.1 vwCl [(a, eO 1 [.ref bk, .ref hs, .ref sp, .ref vl, .int 0])] s.heap := hP
  have hl := lv_entry ([.ref a, .null, .int 0, .int a1, .int a2]) (n := 7) (Nat.le_of_ble_eq_true rfl)
  rw [lg_entry_eq]
  generalize (lg_sl ([.ref a, .null, .int 0, .int a1, .int a2]) ++ List.replicate (7 - (lg_sl ([.ref a, .null, .int 0, .int a1, .int a2])).length) Slot.unset).toArray = ls at hl ⊢
  have hl : lv_has ls 7 [(0, .ref a), (1, .null), (2, .int 0), (3, .int a1), (4, .int a2)] := hl
  refine lv_aload_nN hx hb dX1_truths_0 rfl (lv_at hl 1 rfl) ?_
  refine lv_ifnonnullN hx hb dX1_truths_1 ?_
  refine lv_iload_n hx hb dX1_truths_4 rfl (lv_at hl 2 rfl) ?_
  refine lv_if_ne (tgt := 13) hx hb dX1_truths_5 (by decide) (fun c_5 => absurd (by decide) c_5) (fun c_5 => ?_)
  refine lv_iload hx hb dX1_truths_8 (lv_at hl 4 rfl) ?_
  refine lv_goto (tgt := 14) hx hb dX1_truths_10 (by decide) ?_
  exact W.iret (v := a2) hx hb hr (fun t ht hW => ⟨_, rfl, (rfl), ht⟩) (fun _ h => absurd h List.not_mem_nil) dX1_truths_14
set_option maxHeartbeats 4000000 in
set_option maxRecDepth 100000 in
theorem c_nextInTurn0 (l : Launch) (G : gW) (a : Nat) (bk : Nat) (hs : Nat) (sp : Nat) (vl : Nat) (pe : Nat) (fa : Nat) (ro : Nat) (ac : Nat) (tr : Nat) (la : Nat) (tx : Nat) (pea : Nat) (a1 : Int32) (a2 : Int32)  : Met l yX1_nextInTurn (wsT yX1_nextInTurn cX1_nextInTurn 5 (some .int)) ({ frames := 1, cells := 0, slots := 0, locals := 20 }) (rP G [.ref a, .int a1, .int a2] [(a, eO 1 [.ref bk, .ref hs, .ref sp, .ref vl, .int 0]), (bk, eO 0 [.ref pe, .ref fa, .ref ro, .ref ac, .ref tr, .ref la, .ref tx, .int 5, .int 20]), (pe, eO 5 [.int 30, .int 4, .ref pea, .int 0])]) (rQi (fun r => r = (-1))) 0 0 fr0 := by
  refine Met.ofW (cc := cX1_nextInTurn) (maxL := 5) (ret := (some .int)) (by decide) rfl ?_
  intro p e s m args below meth c s₁ B hml hv
  obtain ⟨rfl, hP, hG⟩ := hv
  have hx := B.exec
  have hb := B.bytes
  have hr := B.returns
  have hts := my_hts (atoms_spec (ws := wsT yX1_nextInTurn cX1_nextInTurn 5 (some .int)) B.pre)
  have hown : s.vm.findClass RX1 = some m.cls := findClass_of_methodNamed B.named
  have hlocks := B.notSynchronized
  have hP : va_P G.1 vwCl [(a, eO 1 [.ref bk, .ref hs, .ref sp, .ref vl, .int 0]), (bk, eO 0 [.ref pe, .ref fa, .ref ro, .ref ac, .ref tr, .ref la, .ref tx, .int 5, .int 20]), (pe, eO 5 [.int 30, .int 4, .ref pea, .int 0])] s.heap := hP
  have hl := lv_entry ([.ref a, .int a1, .int a2]) (n := 5) (Nat.le_of_ble_eq_true rfl)
  rw [lg_entry_eq]
  generalize (lg_sl ([.ref a, .int a1, .int a2]) ++ List.replicate (5 - (lg_sl ([.ref a, .int a1, .int a2])).length) Slot.unset).toArray = ls at hl ⊢
  have hl : lv_has ls 5 [(0, .ref a), (1, .int a1), (2, .int a2)] := hl
  refine lv_iconst (v := (-1)) hx hb dX1_nextInTurn_0 (by decide) ?_
  refine lv_istore_n (lv' := [(3, .int (-1)), (0, .ref a), (1, .int a1), (2, .int a2)]) hx hb dX1_nextInTurn_1 rfl hl (by decide) rfl (fun ls hl => ?_)
  refine lv_iconst (v := 0) hx hb dX1_nextInTurn_2 (by decide) ?_
  refine lv_istore (lv' := [(4, .int 0), (3, .int (-1)), (0, .ref a), (1, .int a1), (2, .int a2)]) hx hb dX1_nextInTurn_3 hl (by decide) rfl (fun ls hl => ?_)
  refine lv_iload hx hb dX1_nextInTurn_5 (lv_at hl 0 rfl) ?_
  refine lv_aload_n hx hb dX1_nextInTurn_7 rfl (lv_at hl 2 rfl) ?_
  refine va_get (D := G.1) (ci := 1) (v := .ref bk) (C := RX1) (T := TX1) (N := 5) hx hb hts inlX1 hown hG.1 hP 0 rfl rfl 0 (by decide) (hts (.fieldLink RX1 12 "SwornLists$Court" "book" "LSwornLists$Book;") w_40) (fun _ h9 => h9) rfl dX1_nextInTurn_8 ?_
  refine va_getN (D := G.1) (ci := 0) (v := .ref pe) (C := RX0) (T := TX0) (N := 9) (host := RX10) hx hb hts inlX0 hown hG.1 hP 1 rfl rfl 0 (by decide) (va_Nw.use rfl (hG.2.1 (.fieldLinkNest RX1 110 RX0 "people" "LSwornLists$Rows;" RX10) (List.mem_of_getElem? (i := 1) rfl))) (fun _ h9 => h9) rfl dX1_nextInTurn_11 ?_
  have hPc := hP.sub (ws' := [(pe, eO 5 [.int 30, .int 4, .ref pea, .int 0])]) [2] rfl
  refine rd_calli (va_runV (As := []) (rest := [.int 0]) ⟨hx, hb, hml, hown, hts⟩ (c_size0 l G pe 30 4 pea ) (my_cwV hts ok_X5_size w_388 rfl rfl ⟨Nat.le_of_ble_eq_true rfl, Nat.le_of_ble_eq_true rfl⟩) ⟨rP.blind, va_recv hG.1 hPc (ci := 5) (q0 := 0) rfl rfl, fun U hU hW => ⟨rfl, by rw [hU]; exact hPc, kG.warm hW hG⟩⟩ rfl rfl hl.1 rfl (lv_room (Nat.le_of_ble_eq_true rfl)) dX1_nextInTurn_14 ⟨Nat.le_of_ble_eq_true rfl, Nat.le_of_ble_eq_true rfl⟩) (fun r hr9 => ?_)
  subst hr9
  refine lv_icmp_ge (tgt := 54) hx hb dX1_nextInTurn_17 (by decide) (fun c_17 => ?_) (fun c_17 => absurd (by decide) c_17)
  refine lv_iload_n hx hb dX1_nextInTurn_54 rfl (lv_at hl 1 rfl) ?_
  exact W.iret (v := (-1)) hx hb hr (fun t ht hW => ⟨_, rfl, (rfl), ht⟩) (fun _ h => absurd h List.not_mem_nil) dX1_nextInTurn_55
set_option maxHeartbeats 4000000 in
set_option maxRecDepth 100000 in
theorem c_put0 (l : Launch) (G : gW) (sz : Nat) (q : Nat) (qs : Nat) (qp : Nat) (a1 : Int32)  : Met l yX8_put (wsT yX8_put cX8_put 2 (some .int)) ({ frames := 0, cells := 0, slots := 0, locals := 0 }) (wP G [.ref q, .int a1] sz [(q, eO 7 [.ref qs, .ref qp, .int 0, .int 0]), (qs, eI G 50 (fun _ => 0))]) (va_Qi (fun (r : Int32) (_ : Unit) => r = 1) (fun _ _ => True) (va_A [(q, eO 7 [.ref qs, .ref qp, .int 0, .int 0]), (qs, eI G 50 (fun _ => 0))] sz)) 0 0 (va_A [(q, eO 7 [.ref qs, .ref qp, .int 0, .int 0]), (qs, eI G 50 (fun _ => 0))] sz) := by
  refine Met.ofW (cc := cX8_put) (maxL := 2) (ret := (some .int)) (by decide) rfl ?_
  intro p e s m args below meth c s₁ B hml hv
  obtain ⟨rfl, hsz, hP, hG, hD0⟩ := hv
  have hx := B.exec
  have hb := B.bytes
  have hr := B.returns
  have hts := my_hts (atoms_spec (ws := wsT yX8_put cX8_put 2 (some .int)) B.pre)
  have hown : s.vm.findClass RX8 = some m.cls := findClass_of_methodNamed B.named
  have hlocks := B.notSynchronized
  subst hsz
  have hD := hD0.self (sz := s.heap.size)
  generalize hAe : va_A [(q, eO 7 [.ref qs, .ref qp, .int 0, .int 0]), (qs, eI G 50 (fun _ => 0))] s.heap.size = A at hD ⊢
  have hA : ∀ q : Nat, s.heap.size ≤ q → A q := fun q h => by rw [← hAe]; exact Or.inr h
  have hS : va_S A s.heap s.heap [] := va_S.rf
  have hP : va_P G.1 vwCl [(q, eO 7 [.ref qs, .ref qp, .int 0, .int 0]), (qs, eI G 50 (fun _ => 0))] s.heap := hP
  have hl := lv_entry ([.ref q, .int a1]) (n := 2) (Nat.le_of_ble_eq_true rfl)
  rw [lg_entry_eq]
  generalize (lg_sl ([.ref q, .int a1]) ++ List.replicate (2 - (lg_sl ([.ref q, .int a1])).length) Slot.unset).toArray = ls at hl ⊢
  have hl : lv_has ls 2 [(0, .ref q), (1, .int a1)] := hl
  refine lv_aload_n hx hb dX8_put_0 rfl (lv_at hl 0 rfl) ?_
  refine va_get (D := G.1) (ci := 7) (v := .int 0) (C := RX8) (T := TX8) (N := 4) hx hb hts inlX8 hown hG.1 hP 0 rfl rfl 2 (by decide) (hts (.fieldLink RX8 18 "SwornLists$Text" "length" "I") w_253) (fun _ h9 => h9) rfl dX8_put_1 ?_
  refine lv_bipush (v := 50) hx hb dX8_put_4 (by decide) ?_
  refine lv_icmp_lt (tgt := 12) hx hb dX8_put_6 (by decide) (fun c_6 => ?_) (fun c_6 => absurd (by decide) c_6)
  refine lv_aload_n hx hb dX8_put_12 rfl (lv_at hl 0 rfl) ?_
  refine va_get (D := G.1) (ci := 7) (v := .ref qs) (C := RX8) (T := TX8) (N := 4) hx hb hts inlX8 hown hG.1 hP 0 rfl rfl 0 (by decide) (hts (.fieldLink RX8 9 "SwornLists$Text" "signs" "[I") w_86) (fun _ h9 => h9) rfl dX8_put_13 ?_
  refine lv_aload_n hx hb dX8_put_16 rfl (lv_at hl 0 rfl) ?_
  refine va_get (D := G.1) (ci := 7) (v := .int 0) (C := RX8) (T := TX8) (N := 4) hx hb hts inlX8 hown hG.1 hP 0 rfl rfl 2 (by decide) (hts (.fieldLink RX8 18 "SwornLists$Text" "length" "I") w_253) (fun _ h9 => h9) rfl dX8_put_17 ?_
  refine lv_iload_n hx hb dX8_put_20 rfl (lv_at hl 1 rfl) ?_
  refine va_iast hx hb hG.1 hP hD hS 1 0 rfl rfl (by unfold vp_in; decide) dX8_put_21 (fun H locs hP hD hS => ?_)
  have hP : va_P G.1 vwCl [(q, eO 7 [.ref qs, .ref qp, .int 0, .int 0]), (qs, eI G 50 (upd (fun _ => 0) (Int32.toNatClampNeg 0) a1))] H := hP
  have hD : va_D A [(q, eO 7 [.ref qs, .ref qp, .int 0, .int 0]), (qs, eI G 50 (upd (fun _ => 0) (Int32.toNatClampNeg 0) a1))] := hD
  refine lv_aload_n hx hb dX8_put_22 rfl (lv_at hl 0 rfl) ?_
  refine lv_dup hx hb dX8_put_23 rfl ?_
  refine va_get (D := G.1) (ci := 7) (v := .int 0) (C := RX8) (T := TX8) (N := 4) hx hb hts inlX8 hown hG.1 hP 0 rfl rfl 2 (by decide) (hts (.fieldLink RX8 18 "SwornLists$Text" "length" "I") w_253) (fun _ h9 => h9) rfl dX8_put_24 ?_
  refine lv_iconst (v := 1) hx hb dX8_put_27 (by decide) ?_
  refine lv_iadd hx hb dX8_put_28 ?_
  refine my_bei (v := 1) (by decide) ?_
  refine va_put (D := G.1) (ci := 7) (v := .int 1) (ty := .int) (C := RX8) (T := TX8) (N := 4) hx hb hts inlX8 tyX8 tyX8_ok nmX8 hown hG.1 hP hD hS 0 rfl rfl 2 (by decide) (hts (.fieldLink RX8 18 "SwornLists$Text" "length" "I") w_253) (fun _ h9 => h9) rfl (by decide +kernel) rfl rfl (Nat.le_of_ble_eq_true rfl) dX8_put_29 (fun H locs hP hD hS => ?_)
  have hP : va_P G.1 vwCl [(q, eO 7 [.ref qs, .ref qp, .int 1, .int 0]), (qs, eI G 50 (upd (fun _ => 0) (Int32.toNatClampNeg 0) a1))] H := hP
  have hD : va_D A [(q, eO 7 [.ref qs, .ref qp, .int 1, .int 0]), (qs, eI G 50 (upd (fun _ => 0) (Int32.toNatClampNeg 0) a1))] := hD
  refine lv_aload_n hx hb dX8_put_32 rfl (lv_at hl 0 rfl) ?_
  refine va_get (D := G.1) (ci := 7) (v := .int 1) (C := RX8) (T := TX8) (N := 4) hx hb hts inlX8 hown hG.1 hP 0 rfl rfl 2 (by decide) (hts (.fieldLink RX8 18 "SwornLists$Text" "length" "I") w_253) (fun _ h9 => h9) rfl dX8_put_33 ?_
  exact W.iret (v := 1) hx hb hr (fun t ht hW => ⟨⟨_, (), rfl, (rfl), trivial⟩, hS.F ht⟩) hS.2.2 dX8_put_36
set_option maxHeartbeats 4000000 in
set_option maxRecDepth 100000 in
theorem c_clear0 (l : Launch) (G : gW) (sz : Nat) (q : Nat) (qs : Nat) (qp : Nat)  : Met l yX8_clear (wsT yX8_clear cX8_clear 2 (some .int)) ({ frames := 0, cells := 0, slots := 0, locals := 0 }) (wP G [.ref q] sz [(q, eO 7 [.ref qs, .ref qp, .int 0, .int 0])]) (va_Qi (fun (r : Int32) (_ : Unit) => r = 0) (fun _ _ => True) (va_A [(q, eO 7 [.ref qs, .ref qp, .int 0, .int 0])] sz)) 0 0 (va_A [(q, eO 7 [.ref qs, .ref qp, .int 0, .int 0])] sz) := by
  refine Met.ofW (cc := cX8_clear) (maxL := 2) (ret := (some .int)) (by decide) rfl ?_
  intro p e s m args below meth c s₁ B hml hv
  obtain ⟨rfl, hsz, hP, hG, hD0⟩ := hv
  have hx := B.exec
  have hb := B.bytes
  have hr := B.returns
  have hts := my_hts (atoms_spec (ws := wsT yX8_clear cX8_clear 2 (some .int)) B.pre)
  have hown : s.vm.findClass RX8 = some m.cls := findClass_of_methodNamed B.named
  have hlocks := B.notSynchronized
  subst hsz
  have hD := hD0.self (sz := s.heap.size)
  generalize hAe : va_A [(q, eO 7 [.ref qs, .ref qp, .int 0, .int 0])] s.heap.size = A at hD ⊢
  have hA : ∀ q : Nat, s.heap.size ≤ q → A q := fun q h => by rw [← hAe]; exact Or.inr h
  have hS : va_S A s.heap s.heap [] := va_S.rf
  have hP : va_P G.1 vwCl [(q, eO 7 [.ref qs, .ref qp, .int 0, .int 0])] s.heap := hP
  have hl := lv_entry ([.ref q]) (n := 2) (Nat.le_of_ble_eq_true rfl)
  rw [lg_entry_eq]
  generalize (lg_sl ([.ref q]) ++ List.replicate (2 - (lg_sl ([.ref q])).length) Slot.unset).toArray = ls at hl ⊢
  have hl : lv_has ls 2 [(0, .ref q)] := hl
  refine lv_aload_n hx hb dX8_clear_0 rfl (lv_at hl 0 rfl) ?_
  refine va_get (D := G.1) (ci := 7) (v := .int 0) (C := RX8) (T := TX8) (N := 4) hx hb hts inlX8 hown hG.1 hP 0 rfl rfl 2 (by decide) (hts (.fieldLink RX8 18 "SwornLists$Text" "length" "I") w_253) (fun _ h9 => h9) rfl dX8_clear_1 ?_
  refine lv_istore_n (lv' := [(1, .int 0), (0, .ref q)]) hx hb dX8_clear_4 rfl hl (by decide) rfl (fun ls hl => ?_)
  refine lv_aload_n hx hb dX8_clear_5 rfl (lv_at hl 1 rfl) ?_
  refine lv_iconst (v := 0) hx hb dX8_clear_6 (by decide) ?_
  refine va_put (D := G.1) (ci := 7) (v := .int 0) (ty := .int) (C := RX8) (T := TX8) (N := 4) hx hb hts inlX8 tyX8 tyX8_ok nmX8 hown hG.1 hP hD hS 0 rfl rfl 2 (by decide) (hts (.fieldLink RX8 18 "SwornLists$Text" "length" "I") w_253) (fun _ h9 => h9) rfl (by decide +kernel) rfl rfl (Nat.le_of_ble_eq_true rfl) dX8_clear_7 (fun H locs hP hD hS => ?_)
  have hP : va_P G.1 vwCl [(q, eO 7 [.ref qs, .ref qp, .int 0, .int 0])] H := hP
  have hD : va_D A [(q, eO 7 [.ref qs, .ref qp, .int 0, .int 0])] := hD
  refine lv_iload_n hx hb dX8_clear_10 rfl (lv_at hl 0 rfl) ?_
  exact W.iret (v := 0) hx hb hr (fun t ht hW => ⟨⟨_, (), rfl, (rfl), trivial⟩, hS.F ht⟩) hS.2.2 dX8_clear_11
set_option maxHeartbeats 4000000 in
set_option maxRecDepth 100000 in
theorem c_forget0 (l : Launch) (G : gW) (sz : Nat) (q : Nat) (qs : Nat) (qp : Nat)  : Met l yX8_forgetSteps (wsT yX8_forgetSteps cX8_forgetSteps 1 none) ({ frames := 0, cells := 0, slots := 0, locals := 0 }) (wP G [.ref q] sz [(q, eO 7 [.ref qs, .ref qp, .int 0, .int 0])]) (va_Qv (fun _ : Unit => True) (wB G (va_A [(q, eO 7 [.ref qs, .ref qp, .int 0, .int 0])] sz) (fun _ : Unit => [(q, eO 7 [.ref qs, .ref qp, .int 0, .int 0])])) (va_A [(q, eO 7 [.ref qs, .ref qp, .int 0, .int 0])] sz)) 0 0 (va_A [(q, eO 7 [.ref qs, .ref qp, .int 0, .int 0])] sz) := by
  refine Met.ofW (cc := cX8_forgetSteps) (maxL := 1) (ret := none) (by decide) rfl ?_
  intro p e s m args below meth c s₁ B hml hv
  obtain ⟨rfl, hsz, hP, hG, hD0⟩ := hv
  have hx := B.exec
  have hb := B.bytes
  have hr := B.returns
  have hts := my_hts (atoms_spec (ws := wsT yX8_forgetSteps cX8_forgetSteps 1 none) B.pre)
  have hown : s.vm.findClass RX8 = some m.cls := findClass_of_methodNamed B.named
  have hlocks := B.notSynchronized
  subst hsz
  have hD := hD0.self (sz := s.heap.size)
  generalize hAe : va_A [(q, eO 7 [.ref qs, .ref qp, .int 0, .int 0])] s.heap.size = A at hD ⊢
  have hA : ∀ q : Nat, s.heap.size ≤ q → A q := fun q h => by rw [← hAe]; exact Or.inr h
  have hS : va_S A s.heap s.heap [] := va_S.rf
  have hP : va_P G.1 vwCl [(q, eO 7 [.ref qs, .ref qp, .int 0, .int 0])] s.heap := hP
  have hl := lv_entry ([.ref q]) (n := 1) (Nat.le_of_ble_eq_true rfl)
  rw [lg_entry_eq]
  generalize (lg_sl ([.ref q]) ++ List.replicate (1 - (lg_sl ([.ref q])).length) Slot.unset).toArray = ls at hl ⊢
  have hl : lv_has ls 1 [(0, .ref q)] := hl
  refine lv_aload_n hx hb dX8_forgetSteps_0 rfl (lv_at hl 0 rfl) ?_
  refine lv_iconst (v := 0) hx hb dX8_forgetSteps_1 (by decide) ?_
  refine va_put (D := G.1) (ci := 7) (v := .int 0) (ty := .int) (C := RX8) (T := TX8) (N := 4) hx hb hts inlX8 tyX8 tyX8_ok nmX8 hown hG.1 hP hD hS 0 rfl rfl 3 (by decide) (hts (.fieldLink RX8 22 "SwornLists$Text" "stepCount" "I") w_293) (fun _ h9 => h9) rfl (by decide +kernel) rfl rfl (Nat.le_of_ble_eq_true rfl) dX8_forgetSteps_2 (fun H locs hP hD hS => ?_)
  have hP : va_P G.1 vwCl [(q, eO 7 [.ref qs, .ref qp, .int 0, .int 0])] H := hP
  have hD : va_D A [(q, eO 7 [.ref qs, .ref qp, .int 0, .int 0])] := hD
  have hP9 := hP.sub (ws' := [(q, eO 7 [.ref qs, .ref qp, .int 0, .int 0])]) [0] rfl
  have hD9 := hD.sub (ws' := [(q, eO 7 [.ref qs, .ref qp, .int 0, .int 0])]) [0] (by decide) rfl
  exact W.vret hx hb hr (fun t ht hW => ⟨⟨(), rfl, (trivial), ⟨by rw [ht]; exact hP9, hD9⟩⟩, hS.F ht⟩) hS.2.2 dX8_forgetSteps_5
set_option maxHeartbeats 4000000 in
set_option maxRecDepth 100000 in
theorem c_length0 (l : Launch) (G : gW) (q : Nat) (qs : Nat) (qp : Nat)  : Met l yX8_length (wsT yX8_length cX8_length 1 (some .int)) ({ frames := 0, cells := 0, slots := 0, locals := 0 }) (rP G [.ref q] [(q, eO 7 [.ref qs, .ref qp, .int 0, .int 0])]) (rQi (fun r => r = 0)) 0 0 fr0 := by
  refine Met.ofW (cc := cX8_length) (maxL := 1) (ret := (some .int)) (by decide) rfl ?_
  intro p e s m args below meth c s₁ B hml hv
  obtain ⟨rfl, hP, hG⟩ := hv
  have hx := B.exec
  have hb := B.bytes
  have hr := B.returns
  have hts := my_hts (atoms_spec (ws := wsT yX8_length cX8_length 1 (some .int)) B.pre)
  have hown : s.vm.findClass RX8 = some m.cls := findClass_of_methodNamed B.named
  have hlocks := B.notSynchronized
  have hP : va_P G.1 vwCl [(q, eO 7 [.ref qs, .ref qp, .int 0, .int 0])] s.heap := hP
  have hl := lv_entry ([.ref q]) (n := 1) (Nat.le_of_ble_eq_true rfl)
  rw [lg_entry_eq]
  generalize (lg_sl ([.ref q]) ++ List.replicate (1 - (lg_sl ([.ref q])).length) Slot.unset).toArray = ls at hl ⊢
  have hl : lv_has ls 1 [(0, .ref q)] := hl
  refine lv_aload_n hx hb dX8_length_0 rfl (lv_at hl 0 rfl) ?_
  refine va_get (D := G.1) (ci := 7) (v := .int 0) (C := RX8) (T := TX8) (N := 4) hx hb hts inlX8 hown hG.1 hP 0 rfl rfl 2 (by decide) (hts (.fieldLink RX8 18 "SwornLists$Text" "length" "I") w_253) (fun _ h9 => h9) rfl dX8_length_1 ?_
  exact W.iret (v := 0) hx hb hr (fun t ht hW => ⟨_, rfl, (rfl), ht⟩) (fun _ h => absurd h List.not_mem_nil) dX8_length_4
set_option maxHeartbeats 4000000 in
set_option maxRecDepth 100000 in
theorem c_tfold0 (l : Launch) (G : gW) (q : Nat) (qs : Nat) (qp : Nat) (h : Int64)  : Met l yX8_fold (wsT yX8_fold cX8_fold 4 (some .long)) ({ frames := 0, cells := 0, slots := 0, locals := 0 }) (rP G [.ref q, .long h] [(q, eO 7 [.ref qs, .ref qp, .int 0, .int 0])]) (rQl (fun r => r = 31 * h + 0)) 0 0 fr0 := by
  refine Met.ofW (cc := cX8_fold) (maxL := 4) (ret := (some .long)) (by decide) rfl ?_
  intro p e s m args below meth c s₁ B hml hv
  obtain ⟨rfl, hP, hG⟩ := hv
  have hx := B.exec
  have hb := B.bytes
  have hr := B.returns
  have hts := my_hts (atoms_spec (ws := wsT yX8_fold cX8_fold 4 (some .long)) B.pre)
  have hown : s.vm.findClass RX8 = some m.cls := findClass_of_methodNamed B.named
  have hlocks := B.notSynchronized
  have hP : va_P G.1 vwCl [(q, eO 7 [.ref qs, .ref qp, .int 0, .int 0])] s.heap := hP
  have hl := lv_entry ([.ref q, .long h]) (n := 4) (Nat.le_of_ble_eq_true rfl)
  rw [lg_entry_eq]
  generalize (lg_sl ([.ref q, .long h]) ++ List.replicate (4 - (lg_sl ([.ref q, .long h])).length) Slot.unset).toArray = ls at hl ⊢
  have hl : lv_has ls 4 [(0, .ref q), (1, .long h)] := hl
  refine lv_ldc2 (v := 31) hx hb hown (hts (.constantLong RX8 31 (31)) w_964) dX8_fold_0 ?_
  refine lv_lload_n hx hb dX8_fold_3 rfl (lv_at hl 1 rfl) ?_
  refine lv_lmul hx hb dX8_fold_4 ?_
  refine lv_aload_n hx hb dX8_fold_5 rfl (lv_at hl 0 rfl) ?_
  refine va_get (D := G.1) (ci := 7) (v := .int 0) (C := RX8) (T := TX8) (N := 4) hx hb hts inlX8 hown hG.1 hP 0 rfl rfl 2 (by decide) (hts (.fieldLink RX8 18 "SwornLists$Text" "length" "I") w_253) (fun _ h9 => h9) rfl dX8_fold_6 ?_
  refine lv_i2l (v := 0) hx hb dX8_fold_9 (by decide) ?_
  refine lv_ladd hx hb dX8_fold_10 ?_
  refine lv_lstore_n (lv' := [(1, .long ((31 * h) + 0)), (0, .ref q)]) hx hb dX8_fold_11 rfl hl (by decide) rfl (fun ls hl => ?_)
  refine lv_iconst (v := 0) hx hb dX8_fold_12 (by decide) ?_
  refine lv_istore_n (lv' := [(3, .int 0), (1, .long ((31 * h) + 0)), (0, .ref q)]) hx hb dX8_fold_13 rfl hl (by decide) rfl (fun ls hl => ?_)
  refine lv_iload_n hx hb dX8_fold_14 rfl (lv_at hl 0 rfl) ?_
  refine lv_aload_n hx hb dX8_fold_15 rfl (lv_at hl 2 rfl) ?_
  refine va_get (D := G.1) (ci := 7) (v := .int 0) (C := RX8) (T := TX8) (N := 4) hx hb hts inlX8 hown hG.1 hP 0 rfl rfl 2 (by decide) (hts (.fieldLink RX8 18 "SwornLists$Text" "length" "I") w_253) (fun _ h9 => h9) rfl dX8_fold_16 ?_
  refine lv_icmp_ge (tgt := 42) hx hb dX8_fold_19 (by decide) (fun c_19 => ?_) (fun c_19 => absurd (by decide) c_19)
  refine lv_lload_n hx hb dX8_fold_42 rfl (lv_at hl 1 rfl) ?_
  exact W.lret (v := (31 * h) + 0) hx hb hr (fun t ht hW => ⟨_, rfl, (rfl), ht⟩) (fun _ h => absurd h List.not_mem_nil) dX8_fold_43
set_option maxHeartbeats 4000000 in
set_option maxRecDepth 100000 in
theorem c_get (l : Launch) (G : gW) (a : Nat) (b : Nat) (bl : Nat) (tf : Nat → Option Nat) (i : Int32) (q : Nat) (hb9 : inB 0 i 3 = true) (hq : inB 0 i 3 = true → tf (Int32.toNatClampNeg i) = some q) : Met l yX6_get (wsT yX6_get cX6_get 2 (some (.object "SwornLists$Text"))) ({ frames := 0, cells := 0, slots := 0, locals := 0 }) (rP G [.ref a, .int i] [(a, eO 6 [.ref b, .ref bl]), (b, eA G 5 4 tf)]) (rQa (fun r => r = .ref q)) 0 0 fr0 := by
  refine Met.ofW (cc := cX6_get) (maxL := 2) (ret := (some (.object "SwornLists$Text"))) (by decide) rfl ?_
  intro p e s m args below meth c s₁ B hml hv
  obtain ⟨rfl, hP, hG⟩ := hv
  have hx := B.exec
  have hb := B.bytes
  have hr := B.returns
  have hts := my_hts (atoms_spec (ws := wsT yX6_get cX6_get 2 (some (.object "SwornLists$Text"))) B.pre)
  have hown : s.vm.findClass RX6 = some m.cls := findClass_of_methodNamed B.named
  have hlocks := B.notSynchronized
  have hP : va_P G.1 vwCl [(a, eO 6 [.ref b, .ref bl]), (b, eA G 5 4 tf)] s.heap := hP
  have hl := lv_entry ([.ref a, .int i]) (n := 2) (Nat.le_of_ble_eq_true rfl)
  rw [lg_entry_eq]
  generalize (lg_sl ([.ref a, .int i]) ++ List.replicate (2 - (lg_sl ([.ref a, .int i])).length) Slot.unset).toArray = ls at hl ⊢
  have hl : lv_has ls 2 [(0, .ref a), (1, .int i)] := hl
  refine lv_iload_n hx hb dX6_get_0 rfl (lv_at hl 1 rfl) ?_
  refine lv_if_lt (tgt := 22) hx hb dX6_get_1 (by decide) (fun c_1 => absurd c_1 (get_n0 hb9)) (fun c_1 => ?_)
  refine lv_iload_n hx hb dX6_get_4 rfl (lv_at hl 1 rfl) ?_
  refine lv_aload_n hx hb dX6_get_5 rfl (lv_at hl 0 rfl) ?_
  refine va_get (D := G.1) (ci := 6) (v := .ref b) (C := RX6) (T := TX6) (N := 2) hx hb hts inlX6 hown hG.1 hP 0 rfl rfl 0 (by decide) (hts (.fieldLink RX6 16 "SwornLists$Shelf" "texts" "[LSwornLists$Text;") w_82) (fun _ h9 => h9) rfl dX6_get_6 ?_
  refine va_alen (v := 4) hx hb hG.1 hP 1 5 rfl rfl rfl dX6_get_9 ?_
  refine lv_icmp_ge (tgt := 22) hx hb dX6_get_10 (by decide) (fun c_10 => absurd c_10 (get_n4 hb9)) (fun c_10 => ?_)
  refine lv_aload_n hx hb dX6_get_13 rfl (lv_at hl 0 rfl) ?_
  refine va_get (D := G.1) (ci := 6) (v := .ref b) (C := RX6) (T := TX6) (N := 2) hx hb hts inlX6 hown hG.1 hP 0 rfl rfl 0 (by decide) (hts (.fieldLink RX6 16 "SwornLists$Shelf" "texts" "[LSwornLists$Text;") w_82) (fun _ h9 => h9) rfl dX6_get_14 ?_
  refine lv_iload_n hx hb dX6_get_17 rfl (lv_at hl 1 rfl) ?_
  refine va_aldq hx hb hG.1 hP 1 5 rfl rfl (get_in hb9) dX6_get_18 ?_
  refine my_bea (v := .ref q) (by rw [hq hb9]; rfl) ?_
  refine lv_goto (tgt := 26) hx hb dX6_get_19 (by decide) ?_
  exact W.aret (v := .ref q) hx hb hr (Or.inl ⟨_, rfl⟩) (Or.inr ⟨_, rfl⟩) (fun t ht hW => ⟨_, rfl, (rfl), ht⟩) (fun _ h => absurd h List.not_mem_nil) dX6_get_26
set_option maxHeartbeats 4000000 in
set_option maxRecDepth 100000 in
theorem c_read0 (l : Launch) (G : gW) (sz : Nat) (a : Nat) (q : Nat) (mk : Nat) (qs : Nat) (qp : Nat)  : Met l yX4_read (wsT yX4_read cX4_read 5 (some .int)) ({ frames := 1, cells := 0, slots := 0, locals := 20 }) (wP G [.ref a, .ref q] sz [(a, eO 4 [.ref mk, .int 0, .int 0, .int 0, .int 0]), (q, eO 7 [.ref qs, .ref qp, .int 0, .int 0])]) (va_Qi (fun (r : Int32) (_ : Unit) => r = 1) (wB G (va_A [(a, eO 4 [.ref mk, .int 0, .int 0, .int 0, .int 0]), (q, eO 7 [.ref qs, .ref qp, .int 0, .int 0])] sz) (fun _ : Unit => [(a, eO 4 [.ref mk, .int 0, .int 0, .int 0, .int 1]), (q, eO 7 [.ref qs, .ref qp, .int 0, .int 0])])) (va_A [(a, eO 4 [.ref mk, .int 0, .int 0, .int 0, .int 0]), (q, eO 7 [.ref qs, .ref qp, .int 0, .int 0])] sz)) 0 0 (va_A [(a, eO 4 [.ref mk, .int 0, .int 0, .int 0, .int 0]), (q, eO 7 [.ref qs, .ref qp, .int 0, .int 0])] sz) := by
  refine Met.ofW (cc := cX4_read) (maxL := 5) (ret := (some .int)) (by decide) rfl ?_
  intro p e s m args below meth c s₁ B hml hv
  obtain ⟨rfl, hsz, hP, hG, hD0⟩ := hv
  have hx := B.exec
  have hb := B.bytes
  have hr := B.returns
  have hts := my_hts (atoms_spec (ws := wsT yX4_read cX4_read 5 (some .int)) B.pre)
  have hown : s.vm.findClass RX4 = some m.cls := findClass_of_methodNamed B.named
  have hlocks := B.notSynchronized
  subst hsz
  have hD := hD0.self (sz := s.heap.size)
  generalize hAe : va_A [(a, eO 4 [.ref mk, .int 0, .int 0, .int 0, .int 0]), (q, eO 7 [.ref qs, .ref qp, .int 0, .int 0])] s.heap.size = A at hD ⊢
  have hA : ∀ q : Nat, s.heap.size ≤ q → A q := fun q h => by rw [← hAe]; exact Or.inr h
  have hS : va_S A s.heap s.heap [] := va_S.rf
  have hP : va_P G.1 vwCl [(a, eO 4 [.ref mk, .int 0, .int 0, .int 0, .int 0]), (q, eO 7 [.ref qs, .ref qp, .int 0, .int 0])] s.heap := hP
  have hl := lv_entry ([.ref a, .ref q]) (n := 5) (Nat.le_of_ble_eq_true rfl)
  rw [lg_entry_eq]
  generalize (lg_sl ([.ref a, .ref q]) ++ List.replicate (5 - (lg_sl ([.ref a, .ref q])).length) Slot.unset).toArray = ls at hl ⊢
  have hl : lv_has ls 5 [(0, .ref a), (1, .ref q)] := hl
  refine lv_aload_n hx hb dX4_read_0 rfl (lv_at hl 1 rfl) ?_
  have hPc := hP.sub (ws' := [(q, eO 7 [.ref qs, .ref qp, .int 0, .int 0])]) [1] rfl
  have hDc := hD.sub (ws' := [(q, eO 7 [.ref qs, .ref qp, .int 0, .int 0])]) [1] (by decide) rfl
  have hFc := va_free (wc := [(q, eO 7 [.ref qs, .ref qp, .int 0, .int 0])]) hD hS hA [1] rfl
  refine va_callv (va_runV (As := []) (rest := []) ⟨hx, hb, hml, hown, hts⟩ (c_forget0 l G s.heap.size q qs qp ) (my_cwV hts ok_X8_forgetSteps w_289 rfl rfl ⟨Nat.le_of_ble_eq_true rfl, Nat.le_of_ble_eq_true rfl⟩) ⟨wP.blind, va_recv hG.1 hPc (ci := 7) (q0 := 0) rfl rfl, fun U hU hW => ⟨rfl, by rw [hU], by rw [hU]; exact hPc, kG.warm hW hG, hDc.weaken (fun _ _ _ _ => trivial)⟩⟩ rfl rfl hl.1 rfl (lv_room (Nat.le_of_ble_eq_true rfl)) dX4_read_1 ⟨Nat.le_of_ble_eq_true rfl, Nat.le_of_ble_eq_true rfl⟩) hS (fun q _ h => hFc q h) hFc (fun u t H1 locs ht hvm hw hB hz1 hk1 hS => ?_)
  obtain ⟨hP1, hD1⟩ := hB
  rw [ht] at hP1
  try dsimp only at hw
  obtain ⟨hP, hD⟩ := va_join (wr := [(a, eO 4 [.ref mk, .int 0, .int 0, .int 0, .int 0])]) (w1 := [(q, eO 7 [.ref qs, .ref qp, .int 0, .int 0])]) hP hD [1] [0] rfl rfl (by decide) (by decide) hk1 hFc hP1 hD1
  generalize H1 = H at hP hS ⊢
  have hP : va_P G.1 vwCl [(a, eO 4 [.ref mk, .int 0, .int 0, .int 0, .int 0]), (q, eO 7 [.ref qs, .ref qp, .int 0, .int 0])] H := hP
  have hD : va_D A [(a, eO 4 [.ref mk, .int 0, .int 0, .int 0, .int 0]), (q, eO 7 [.ref qs, .ref qp, .int 0, .int 0])] := hD
  refine lv_aload_n hx hb dX4_read_4 rfl (lv_at hl 0 rfl) ?_
  refine lv_iconst (v := 0) hx hb dX4_read_5 (by decide) ?_
  refine va_put (D := G.1) (ci := 4) (v := .int 0) (ty := .int) (C := RX4) (T := TX4) (N := 5) hx hb hts inlX4 tyX4 tyX4_ok nmX4 hown hG.1 hP hD hS 0 rfl rfl 1 (by decide) (hts (.fieldLink RX4 20 "SwornLists$Reader" "markCount" "I") w_282) (fun _ h9 => h9) rfl (by decide +kernel) rfl rfl (Nat.le_of_ble_eq_true rfl) dX4_read_6 (fun H locs hP hD hS => ?_)
  have hP : va_P G.1 vwCl [(a, eO 4 [.ref mk, .int 0, .int 0, .int 0, .int 0]), (q, eO 7 [.ref qs, .ref qp, .int 0, .int 0])] H := hP
  have hD : va_D A [(a, eO 4 [.ref mk, .int 0, .int 0, .int 0, .int 0]), (q, eO 7 [.ref qs, .ref qp, .int 0, .int 0])] := hD
  refine lv_aload_n hx hb dX4_read_9 rfl (lv_at hl 0 rfl) ?_
  refine lv_iconst (v := 0) hx hb dX4_read_10 (by decide) ?_
  refine va_put (D := G.1) (ci := 4) (v := .int 0) (ty := .int) (C := RX4) (T := TX4) (N := 5) hx hb hts inlX4 tyX4 tyX4_ok nmX4 hown hG.1 hP hD hS 0 rfl rfl 2 (by decide) (hts (.fieldLink RX4 24 "SwornLists$Reader" "open" "I") w_283) (fun _ h9 => h9) rfl (by decide +kernel) rfl rfl (Nat.le_of_ble_eq_true rfl) dX4_read_11 (fun H locs hP hD hS => ?_)
  have hP : va_P G.1 vwCl [(a, eO 4 [.ref mk, .int 0, .int 0, .int 0, .int 0]), (q, eO 7 [.ref qs, .ref qp, .int 0, .int 0])] H := hP
  have hD : va_D A [(a, eO 4 [.ref mk, .int 0, .int 0, .int 0, .int 0]), (q, eO 7 [.ref qs, .ref qp, .int 0, .int 0])] := hD
  refine lv_aload_n hx hb dX4_read_14 rfl (lv_at hl 0 rfl) ?_
  refine lv_iconst (v := 0) hx hb dX4_read_15 (by decide) ?_
  refine va_put (D := G.1) (ci := 4) (v := .int 0) (ty := .int) (C := RX4) (T := TX4) (N := 5) hx hb hts inlX4 tyX4 tyX4_ok nmX4 hown hG.1 hP hD hS 0 rfl rfl 3 (by decide) (hts (.fieldLink RX4 27 "SwornLists$Reader" "compared" "I") w_284) (fun _ h9 => h9) rfl (by decide +kernel) rfl rfl (Nat.le_of_ble_eq_true rfl) dX4_read_16 (fun H locs hP hD hS => ?_)
  have hP : va_P G.1 vwCl [(a, eO 4 [.ref mk, .int 0, .int 0, .int 0, .int 0]), (q, eO 7 [.ref qs, .ref qp, .int 0, .int 0])] H := hP
  have hD : va_D A [(a, eO 4 [.ref mk, .int 0, .int 0, .int 0, .int 0]), (q, eO 7 [.ref qs, .ref qp, .int 0, .int 0])] := hD
  refine lv_aload_n hx hb dX4_read_19 rfl (lv_at hl 0 rfl) ?_
  refine lv_iconst (v := 1) hx hb dX4_read_20 (by decide) ?_
  refine va_put (D := G.1) (ci := 4) (v := .int 1) (ty := .boolean) (C := RX4) (T := TX4) (N := 5) hx hb hts inlX4 tyX4 tyX4_ok nmX4 hown hG.1 hP hD hS 0 rfl rfl 4 (by decide) (hts (.fieldLink RX4 30 "SwornLists$Reader" "wantsUnit" "Z") w_285) (fun _ h9 => h9) rfl (by decide +kernel) rfl rfl (Nat.le_of_ble_eq_true rfl) dX4_read_21 (fun H locs hP hD hS => ?_)
  have hP : va_P G.1 vwCl [(a, eO 4 [.ref mk, .int 0, .int 0, .int 0, .int 1]), (q, eO 7 [.ref qs, .ref qp, .int 0, .int 0])] H := hP
  have hD : va_D A [(a, eO 4 [.ref mk, .int 0, .int 0, .int 0, .int 1]), (q, eO 7 [.ref qs, .ref qp, .int 0, .int 0])] := hD
  refine lv_iconst (v := 0) hx hb dX4_read_24 (by decide) ?_
  refine lv_istore_n (lv' := [(2, .int 0), (0, .ref a), (1, .ref q)]) hx hb dX4_read_25 rfl hl (by decide) rfl (fun ls hl => ?_)
  refine lv_iload_n hx hb dX4_read_26 rfl (lv_at hl 0 rfl) ?_
  refine lv_aload_n hx hb dX4_read_27 rfl (lv_at hl 2 rfl) ?_
  have hPc := hP.sub (ws' := [(q, eO 7 [.ref qs, .ref qp, .int 0, .int 0])]) [1] rfl
  refine rd_calli (va_runV (As := []) (rest := [.int 0]) ⟨hx, hb, hml, hown, hts⟩ (c_length0 l G q qs qp ) (my_cwV hts ok_X8_length w_294 rfl rfl ⟨Nat.le_of_ble_eq_true rfl, Nat.le_of_ble_eq_true rfl⟩) ⟨rP.blind, va_recv hG.1 hPc (ci := 7) (q0 := 0) rfl rfl, fun U hU hW => ⟨rfl, by rw [hU]; exact hPc, kG.warm hW hG⟩⟩ rfl rfl hl.1 rfl (lv_room (Nat.le_of_ble_eq_true rfl)) dX4_read_28 ⟨Nat.le_of_ble_eq_true rfl, Nat.le_of_ble_eq_true rfl⟩) (fun r hr9 => ?_)
  subst hr9
  refine lv_icmp_ge (tgt := 181) hx hb dX4_read_31 (by decide) (fun c_31 => ?_) (fun c_31 => absurd (by decide) c_31)
  refine lv_aload_n hx hb dX4_read_181 rfl (lv_at hl 1 rfl) ?_
  refine va_get (D := G.1) (ci := 4) (v := .int 1) (C := RX4) (T := TX4) (N := 5) hx hb hts inlX4 hown hG.1 hP 0 rfl rfl 4 (by decide) (hts (.fieldLink RX4 30 "SwornLists$Reader" "wantsUnit" "Z") w_285) (fun _ h9 => h9) rfl dX4_read_182 ?_
  refine lv_if_ne (tgt := 195) hx hb dX4_read_185 (by decide) (fun c_185 => ?_) (fun c_185 => absurd c_185 (by decide))
  refine lv_bipush (v := 10) hx hb dX4_read_195 (by decide) ?_
  refine lv_aload_n hx hb dX4_read_197 rfl (lv_at hl 2 rfl) ?_
  have hPc := hP.sub (ws' := [(q, eO 7 [.ref qs, .ref qp, .int 0, .int 0])]) [1] rfl
  refine rd_calli (va_runV (As := []) (rest := [.int 10]) ⟨hx, hb, hml, hown, hts⟩ (c_length0 l G q qs qp ) (my_cwV hts ok_X8_length w_294 rfl rfl ⟨Nat.le_of_ble_eq_true rfl, Nat.le_of_ble_eq_true rfl⟩) ⟨rP.blind, va_recv hG.1 hPc (ci := 7) (q0 := 0) rfl rfl, fun U hU hW => ⟨rfl, by rw [hU]; exact hPc, kG.warm hW hG⟩⟩ rfl rfl hl.1 rfl (lv_room (Nat.le_of_ble_eq_true rfl)) dX4_read_198 ⟨Nat.le_of_ble_eq_true rfl, Nat.le_of_ble_eq_true rfl⟩) (fun r hr9 => ?_)
  subst hr9
  refine lv_imul hx hb dX4_read_201 ?_
  refine my_bei (v := 0) (by decide) ?_
  refine lv_iconst (v := 1) hx hb dX4_read_202 (by decide) ?_
  refine lv_iadd hx hb dX4_read_203 ?_
  refine my_bei (v := 1) (by decide) ?_
  have hP9 := hP.sub (ws' := [(a, eO 4 [.ref mk, .int 0, .int 0, .int 0, .int 1]), (q, eO 7 [.ref qs, .ref qp, .int 0, .int 0])]) [0, 1] rfl
  have hD9 := hD.sub (ws' := [(a, eO 4 [.ref mk, .int 0, .int 0, .int 0, .int 1]), (q, eO 7 [.ref qs, .ref qp, .int 0, .int 0])]) [0, 1] (by decide) rfl
  exact W.iret (v := 1) hx hb hr (fun t ht hW => ⟨⟨_, (), rfl, (rfl), ⟨by rw [ht]; exact hP9, hD9⟩⟩, hS.F ht⟩) hS.2.2 dX4_read_204
set_option maxHeartbeats 4000000 in
set_option maxRecDepth 100000 in
theorem c_gather0 (l : Launch) (G : gW) (sz : Nat) (a : Nat) (bk : Nat) (wa : Nat) (wb : Nat) (wc : Nat) (wd : Nat) (pe : Nat) (fa : Nat) (ro : Nat) (ac : Nat) (tr : Nat) (la : Nat) (tx : Nat) (tra : Nat) (a1 : Int32)  : Met l yX9_gather (wsT yX9_gather cX9_gather 5 none) ({ frames := 1, cells := 0, slots := 0, locals := 20 }) (wP G [.ref a, .ref bk, .int a1] sz [(a, eO 8 [.ref wa, .ref wb, .ref wc, .ref wd, .int 0, .int 0]), (bk, eO 0 [.ref pe, .ref fa, .ref ro, .ref ac, .ref tr, .ref la, .ref tx, .int 5, .int 20]), (tr, eO 5 [.int 10, .int 70, .ref tra, .int 0])]) (va_Qv (fun _ : Unit => True) (wB G (va_A [(a, eO 8 [.ref wa, .ref wb, .ref wc, .ref wd, .int 0, .int 0]), (bk, eO 0 [.ref pe, .ref fa, .ref ro, .ref ac, .ref tr, .ref la, .ref tx, .int 5, .int 20]), (tr, eO 5 [.int 10, .int 70, .ref tra, .int 0])] sz) (fun _ : Unit => [(a, eO 8 [.ref wa, .ref wb, .ref wc, .ref wd, .int 0, .int 0]), (bk, eO 0 [.ref pe, .ref fa, .ref ro, .ref ac, .ref tr, .ref la, .ref tx, .int 5, .int 20]), (tr, eO 5 [.int 10, .int 70, .ref tra, .int 0])])) (va_A [(a, eO 8 [.ref wa, .ref wb, .ref wc, .ref wd, .int 0, .int 0]), (bk, eO 0 [.ref pe, .ref fa, .ref ro, .ref ac, .ref tr, .ref la, .ref tx, .int 5, .int 20]), (tr, eO 5 [.int 10, .int 70, .ref tra, .int 0])] sz)) 0 0 (va_A [(a, eO 8 [.ref wa, .ref wb, .ref wc, .ref wd, .int 0, .int 0]), (bk, eO 0 [.ref pe, .ref fa, .ref ro, .ref ac, .ref tr, .ref la, .ref tx, .int 5, .int 20]), (tr, eO 5 [.int 10, .int 70, .ref tra, .int 0])] sz) := by
  refine Met.ofW (cc := cX9_gather) (maxL := 5) (ret := none) (by decide) rfl ?_
  intro p e s m args below meth c s₁ B hml hv
  obtain ⟨rfl, hsz, hP, hG, hD0⟩ := hv
  have hx := B.exec
  have hb := B.bytes
  have hr := B.returns
  have hts := my_hts (atoms_spec (ws := wsT yX9_gather cX9_gather 5 none) B.pre)
  have hown : s.vm.findClass RX9 = some m.cls := findClass_of_methodNamed B.named
  have hlocks := B.notSynchronized
  subst hsz
  have hD := hD0.self (sz := s.heap.size)
  generalize hAe : va_A [(a, eO 8 [.ref wa, .ref wb, .ref wc, .ref wd, .int 0, .int 0]), (bk, eO 0 [.ref pe, .ref fa, .ref ro, .ref ac, .ref tr, .ref la, .ref tx, .int 5, .int 20]), (tr, eO 5 [.int 10, .int 70, .ref tra, .int 0])] s.heap.size = A at hD ⊢
  have hA : ∀ q : Nat, s.heap.size ≤ q → A q := fun q h => by rw [← hAe]; exact Or.inr h
  have hS : va_S A s.heap s.heap [] := va_S.rf
  have hP : va_P G.1 vwCl [(a, eO 8 [.ref wa, .ref wb, .ref wc, .ref wd, .int 0, .int 0]), (bk, eO 0 [.ref pe, .ref fa, .ref ro, .ref ac, .ref tr, .ref la, .ref tx, .int 5, .int 20]), (tr, eO 5 [.int 10, .int 70, .ref tra, .int 0])] s.heap := hP
  have hl := lv_entry ([.ref a, .ref bk, .int a1]) (n := 5) (Nat.le_of_ble_eq_true rfl)
  rw [lg_entry_eq]
  generalize (lg_sl ([.ref a, .ref bk, .int a1]) ++ List.replicate (5 - (lg_sl ([.ref a, .ref bk, .int a1])).length) Slot.unset).toArray = ls at hl ⊢
  have hl : lv_has ls 5 [(0, .ref a), (1, .ref bk), (2, .int a1)] := hl
  refine lv_aload_n hx hb dX9_gather_0 rfl (lv_at hl 0 rfl) ?_
  refine lv_iconst (v := 0) hx hb dX9_gather_1 (by decide) ?_
  refine va_put (D := G.1) (ci := 8) (v := .int 0) (ty := .int) (C := RX9) (T := TX9) (N := 6) hx hb hts inlX9 tyX9 tyX9_ok nmX9 hown hG.1 hP hD hS 0 rfl rfl 4 (by decide) (hts (.fieldLink RX9 24 "SwornLists$Waits" "many" "I") w_824) (fun _ h9 => h9) rfl (by decide +kernel) rfl rfl (Nat.le_of_ble_eq_true rfl) dX9_gather_2 (fun H locs hP hD hS => ?_)
  have hP : va_P G.1 vwCl [(a, eO 8 [.ref wa, .ref wb, .ref wc, .ref wd, .int 0, .int 0]), (bk, eO 0 [.ref pe, .ref fa, .ref ro, .ref ac, .ref tr, .ref la, .ref tx, .int 5, .int 20]), (tr, eO 5 [.int 10, .int 70, .ref tra, .int 0])] H := hP
  have hD : va_D A [(a, eO 8 [.ref wa, .ref wb, .ref wc, .ref wd, .int 0, .int 0]), (bk, eO 0 [.ref pe, .ref fa, .ref ro, .ref ac, .ref tr, .ref la, .ref tx, .int 5, .int 20]), (tr, eO 5 [.int 10, .int 70, .ref tra, .int 0])] := hD
  refine lv_iconst (v := 0) hx hb dX9_gather_5 (by decide) ?_
  refine lv_istore_n (lv' := [(3, .int 0), (0, .ref a), (1, .ref bk), (2, .int a1)]) hx hb dX9_gather_6 rfl hl (by decide) rfl (fun ls hl => ?_)
  refine lv_iload_n hx hb dX9_gather_7 rfl (lv_at hl 0 rfl) ?_
  refine lv_aload_n hx hb dX9_gather_8 rfl (lv_at hl 2 rfl) ?_
  refine va_getN (D := G.1) (ci := 0) (v := .ref tr) (C := RX0) (T := TX0) (N := 9) (host := RX10) hx hb hts inlX0 hown hG.1 hP 1 rfl rfl 4 (by decide) (va_Nw.use rfl (hG.2.1 (.fieldLinkNest RX9 53 RX0 "trials" "LSwornLists$Rows;" RX10) (List.mem_of_getElem? (i := 5) rfl))) (fun _ h9 => h9) rfl dX9_gather_9 ?_
  have hPc := hP.sub (ws' := [(tr, eO 5 [.int 10, .int 70, .ref tra, .int 0])]) [2] rfl
  refine rd_calli (va_runV (As := []) (rest := [.int 0]) ⟨hx, hb, hml, hown, hts⟩ (c_size0 l G tr 10 70 tra ) (my_cwV hts ok_X5_size w_832 rfl rfl ⟨Nat.le_of_ble_eq_true rfl, Nat.le_of_ble_eq_true rfl⟩) ⟨rP.blind, va_recv hG.1 hPc (ci := 5) (q0 := 0) rfl rfl, fun U hU hW => ⟨rfl, by rw [hU]; exact hPc, kG.warm hW hG⟩⟩ rfl rfl hl.1 rfl (lv_room (Nat.le_of_ble_eq_true rfl)) dX9_gather_12 ⟨Nat.le_of_ble_eq_true rfl, Nat.le_of_ble_eq_true rfl⟩) (fun r hr9 => ?_)
  subst hr9
  refine lv_icmp_ge (tgt := 71) hx hb dX9_gather_15 (by decide) (fun c_15 => ?_) (fun c_15 => absurd (by decide) c_15)
  refine lv_iconst (v := 0) hx hb dX9_gather_71 (by decide) ?_
  refine lv_istore_n (lv' := [(3, .int 0), (0, .ref a), (1, .ref bk), (2, .int a1)]) hx hb dX9_gather_72 rfl hl (by decide) rfl (fun ls hl => ?_)
  refine lv_iload_n hx hb dX9_gather_73 rfl (lv_at hl 0 rfl) ?_
  refine lv_aload_n hx hb dX9_gather_74 rfl (lv_at hl 1 rfl) ?_
  refine va_get (D := G.1) (ci := 8) (v := .int 0) (C := RX9) (T := TX9) (N := 6) hx hb hts inlX9 hown hG.1 hP 0 rfl rfl 4 (by decide) (hts (.fieldLink RX9 24 "SwornLists$Waits" "many" "I") w_824) (fun _ h9 => h9) rfl dX9_gather_75 ?_
  refine lv_icmp_ge (tgt := 168) hx hb dX9_gather_78 (by decide) (fun c_78 => ?_) (fun c_78 => absurd (by decide) c_78)
  have hP9 := hP.sub (ws' := [(a, eO 8 [.ref wa, .ref wb, .ref wc, .ref wd, .int 0, .int 0]), (bk, eO 0 [.ref pe, .ref fa, .ref ro, .ref ac, .ref tr, .ref la, .ref tx, .int 5, .int 20]), (tr, eO 5 [.int 10, .int 70, .ref tra, .int 0])]) [0, 1, 2] rfl
  have hD9 := hD.sub (ws' := [(a, eO 8 [.ref wa, .ref wb, .ref wc, .ref wd, .int 0, .int 0]), (bk, eO 0 [.ref pe, .ref fa, .ref ro, .ref ac, .ref tr, .ref la, .ref tx, .int 5, .int 20]), (tr, eO 5 [.int 10, .int 70, .ref tra, .int 0])]) [0, 1, 2] (by decide) rfl
  exact W.vret hx hb hr (fun t ht hW => ⟨⟨(), rfl, (trivial), ⟨by rw [ht]; exact hP9, hD9⟩⟩, hS.F ht⟩) hS.2.2 dX9_gather_168
set_option maxHeartbeats 4000000 in
set_option maxRecDepth 100000 in
theorem c_seek0 (l : Launch) (G : gW) (sz : Nat) (a : Nat) (bk : Nat) (wa : Nat) (wb : Nat) (wc : Nat) (wd : Nat) (pe : Nat) (fa : Nat) (ro : Nat) (ac : Nat) (tr : Nat) (la : Nat) (tx : Nat) (tra : Nat) (a1 : Int32)  : Met l yX9_seek (wsT yX9_seek cX9_seek 6 none) ({ frames := 2, cells := 0, slots := 0, locals := 44 }) (wP G [.ref a, .ref bk, .int a1] sz [(a, eO 8 [.ref wa, .ref wb, .ref wc, .ref wd, .int 0, .int 0]), (bk, eO 0 [.ref pe, .ref fa, .ref ro, .ref ac, .ref tr, .ref la, .ref tx, .int 5, .int 20]), (tr, eO 5 [.int 10, .int 70, .ref tra, .int 0]), (wb, eI G 6 (fun _ => 0))]) (va_Qv (fun _ : Unit => True) (wB G (va_A [(a, eO 8 [.ref wa, .ref wb, .ref wc, .ref wd, .int 0, .int 0]), (bk, eO 0 [.ref pe, .ref fa, .ref ro, .ref ac, .ref tr, .ref la, .ref tx, .int 5, .int 20]), (tr, eO 5 [.int 10, .int 70, .ref tra, .int 0]), (wb, eI G 6 (fun _ => 0))] sz) (fun _ : Unit => [(a, eO 8 [.ref wa, .ref wb, .ref wc, .ref wd, .int 0, .int 0]), (bk, eO 0 [.ref pe, .ref fa, .ref ro, .ref ac, .ref tr, .ref la, .ref tx, .int 5, .int 20]), (tr, eO 5 [.int 10, .int 70, .ref tra, .int 0])])) (va_A [(a, eO 8 [.ref wa, .ref wb, .ref wc, .ref wd, .int 0, .int 0]), (bk, eO 0 [.ref pe, .ref fa, .ref ro, .ref ac, .ref tr, .ref la, .ref tx, .int 5, .int 20]), (tr, eO 5 [.int 10, .int 70, .ref tra, .int 0]), (wb, eI G 6 (fun _ => 0))] sz)) 0 0 (va_A [(a, eO 8 [.ref wa, .ref wb, .ref wc, .ref wd, .int 0, .int 0]), (bk, eO 0 [.ref pe, .ref fa, .ref ro, .ref ac, .ref tr, .ref la, .ref tx, .int 5, .int 20]), (tr, eO 5 [.int 10, .int 70, .ref tra, .int 0]), (wb, eI G 6 (fun _ => 0))] sz) := by
  refine Met.ofW (cc := cX9_seek) (maxL := 6) (ret := none) (by decide) rfl ?_
  intro p e s m args below meth c s₁ B hml hv
  obtain ⟨rfl, hsz, hP, hG, hD0⟩ := hv
  have hx := B.exec
  have hb := B.bytes
  have hr := B.returns
  have hts := my_hts (atoms_spec (ws := wsT yX9_seek cX9_seek 6 none) B.pre)
  have hown : s.vm.findClass RX9 = some m.cls := findClass_of_methodNamed B.named
  have hlocks := B.notSynchronized
  subst hsz
  have hD := hD0.self (sz := s.heap.size)
  generalize hAe : va_A [(a, eO 8 [.ref wa, .ref wb, .ref wc, .ref wd, .int 0, .int 0]), (bk, eO 0 [.ref pe, .ref fa, .ref ro, .ref ac, .ref tr, .ref la, .ref tx, .int 5, .int 20]), (tr, eO 5 [.int 10, .int 70, .ref tra, .int 0]), (wb, eI G 6 (fun _ => 0))] s.heap.size = A at hD ⊢
  have hA : ∀ q : Nat, s.heap.size ≤ q → A q := fun q h => by rw [← hAe]; exact Or.inr h
  have hS : va_S A s.heap s.heap [] := va_S.rf
  have hP : va_P G.1 vwCl [(a, eO 8 [.ref wa, .ref wb, .ref wc, .ref wd, .int 0, .int 0]), (bk, eO 0 [.ref pe, .ref fa, .ref ro, .ref ac, .ref tr, .ref la, .ref tx, .int 5, .int 20]), (tr, eO 5 [.int 10, .int 70, .ref tra, .int 0]), (wb, eI G 6 (fun _ => 0))] s.heap := hP
  have hl := lv_entry ([.ref a, .ref bk, .int a1]) (n := 6) (Nat.le_of_ble_eq_true rfl)
  rw [lg_entry_eq]
  generalize (lg_sl ([.ref a, .ref bk, .int a1]) ++ List.replicate (6 - (lg_sl ([.ref a, .ref bk, .int a1])).length) Slot.unset).toArray = ls at hl ⊢
  have hl : lv_has ls 6 [(0, .ref a), (1, .ref bk), (2, .int a1)] := hl
  refine lv_aload_n hx hb dX9_seek_0 rfl (lv_at hl 0 rfl) ?_
  refine lv_aload_n hx hb dX9_seek_1 rfl (lv_at hl 1 rfl) ?_
  refine lv_iload_n hx hb dX9_seek_2 rfl (lv_at hl 2 rfl) ?_
  have hPc := hP.sub (ws' := [(a, eO 8 [.ref wa, .ref wb, .ref wc, .ref wd, .int 0, .int 0]), (bk, eO 0 [.ref pe, .ref fa, .ref ro, .ref ac, .ref tr, .ref la, .ref tx, .int 5, .int 20]), (tr, eO 5 [.int 10, .int 70, .ref tra, .int 0])]) [0, 1, 2] rfl
  have hDc := hD.sub (ws' := [(a, eO 8 [.ref wa, .ref wb, .ref wc, .ref wd, .int 0, .int 0]), (bk, eO 0 [.ref pe, .ref fa, .ref ro, .ref ac, .ref tr, .ref la, .ref tx, .int 5, .int 20]), (tr, eO 5 [.int 10, .int 70, .ref tra, .int 0])]) [0, 1, 2] (by decide) rfl
  have hFc := va_free (wc := [(a, eO 8 [.ref wa, .ref wb, .ref wc, .ref wd, .int 0, .int 0]), (bk, eO 0 [.ref pe, .ref fa, .ref ro, .ref ac, .ref tr, .ref la, .ref tx, .int 5, .int 20]), (tr, eO 5 [.int 10, .int 70, .ref tra, .int 0])]) hD hS hA [0, 1, 2] rfl
  refine va_callv (va_runV (As := [.ref bk, .int a1]) (rest := []) ⟨hx, hb, hml, hown, hts⟩ (c_gather0 l G s.heap.size a bk wa wb wc wd pe fa ro ac tr la tx tra a1 ) (my_cwV hts ok_X9_gather w_828 rfl rfl ⟨Nat.le_of_ble_eq_true rfl, Nat.le_of_ble_eq_true rfl⟩) ⟨wP.blind, va_recv hG.1 hPc (ci := 8) (q0 := 0) rfl rfl, fun U hU hW => ⟨rfl, by rw [hU], by rw [hU]; exact hPc, kG.warm hW hG, hDc.weaken (fun _ _ _ _ => trivial)⟩⟩ rfl rfl hl.1 rfl (lv_room (Nat.le_of_ble_eq_true rfl)) dX9_seek_3 ⟨Nat.le_of_ble_eq_true rfl, Nat.le_of_ble_eq_true rfl⟩) hS (fun q _ h => hFc q h) hFc (fun u t H1 locs ht hvm hw hB hz1 hk1 hS => ?_)
  obtain ⟨hP1, hD1⟩ := hB
  rw [ht] at hP1
  try dsimp only at hw
  obtain ⟨hP, hD⟩ := va_join (wr := [(wb, eI G 6 (fun _ => 0))]) (w1 := [(a, eO 8 [.ref wa, .ref wb, .ref wc, .ref wd, .int 0, .int 0]), (bk, eO 0 [.ref pe, .ref fa, .ref ro, .ref ac, .ref tr, .ref la, .ref tx, .int 5, .int 20]), (tr, eO 5 [.int 10, .int 70, .ref tra, .int 0])]) hP hD [0, 1, 2] [3] rfl rfl (by decide) (by decide) hk1 hFc hP1 hD1
  generalize H1 = H at hP hS ⊢
  have hP : va_P G.1 vwCl [(wb, eI G 6 (fun _ => 0)), (a, eO 8 [.ref wa, .ref wb, .ref wc, .ref wd, .int 0, .int 0]), (bk, eO 0 [.ref pe, .ref fa, .ref ro, .ref ac, .ref tr, .ref la, .ref tx, .int 5, .int 20]), (tr, eO 5 [.int 10, .int 70, .ref tra, .int 0])] H := hP
  have hD : va_D A [(wb, eI G 6 (fun _ => 0)), (a, eO 8 [.ref wa, .ref wb, .ref wc, .ref wd, .int 0, .int 0]), (bk, eO 0 [.ref pe, .ref fa, .ref ro, .ref ac, .ref tr, .ref la, .ref tx, .int 5, .int 20]), (tr, eO 5 [.int 10, .int 70, .ref tra, .int 0])] := hD
  refine lv_aload_n hx hb dX9_seek_6 rfl (lv_at hl 0 rfl) ?_
  refine lv_aload_n hx hb dX9_seek_7 rfl (lv_at hl 0 rfl) ?_
  refine va_get (D := G.1) (ci := 8) (v := .int 0) (C := RX9) (T := TX9) (N := 6) hx hb hts inlX9 hown hG.1 hP 1 rfl rfl 4 (by decide) (hts (.fieldLink RX9 24 "SwornLists$Waits" "many" "I") w_824) (fun _ h9 => h9) rfl dX9_seek_8 ?_
  refine lv_if_ne (tgt := 18) hx hb dX9_seek_11 (by decide) (fun c_11 => absurd (by decide) c_11) (fun c_11 => ?_)
  refine lv_iconst (v := 0) hx hb dX9_seek_14 (by decide) ?_
  refine lv_goto (tgt := 19) hx hb dX9_seek_15 (by decide) ?_
  refine va_put (D := G.1) (ci := 8) (v := .int 0) (ty := .int) (C := RX9) (T := TX9) (N := 6) hx hb hts inlX9 tyX9 tyX9_ok nmX9 hown hG.1 hP hD hS 1 rfl rfl 5 (by decide) (hts (.fieldLink RX9 32 "SwornLists$Waits" "leastSum" "I") w_825) (fun _ h9 => h9) rfl (by decide +kernel) rfl rfl (Nat.le_of_ble_eq_true rfl) dX9_seek_19 (fun H locs hP hD hS => ?_)
  have hP : va_P G.1 vwCl [(wb, eI G 6 (fun _ => 0)), (a, eO 8 [.ref wa, .ref wb, .ref wc, .ref wd, .int 0, .int 0]), (bk, eO 0 [.ref pe, .ref fa, .ref ro, .ref ac, .ref tr, .ref la, .ref tx, .int 5, .int 20]), (tr, eO 5 [.int 10, .int 70, .ref tra, .int 0])] H := hP
  have hD : va_D A [(wb, eI G 6 (fun _ => 0)), (a, eO 8 [.ref wa, .ref wb, .ref wc, .ref wd, .int 0, .int 0]), (bk, eO 0 [.ref pe, .ref fa, .ref ro, .ref ac, .ref tr, .ref la, .ref tx, .int 5, .int 20]), (tr, eO 5 [.int 10, .int 70, .ref tra, .int 0])] := hD
  refine lv_iconst (v := 0) hx hb dX9_seek_22 (by decide) ?_
  refine lv_istore_n (lv' := [(3, .int 0), (0, .ref a), (1, .ref bk), (2, .int a1)]) hx hb dX9_seek_23 rfl hl (by decide) rfl (fun ls hl => ?_)
  refine lv_aload_n hx hb dX9_seek_24 rfl (lv_at hl 1 rfl) ?_
  refine va_get (D := G.1) (ci := 8) (v := .ref wb) (C := RX9) (T := TX9) (N := 6) hx hb hts inlX9 hown hG.1 hP 1 rfl rfl 1 (by decide) (hts (.fieldLink RX9 15 "SwornLists$Waits" "waits" "[I") w_105) (fun _ h9 => h9) rfl dX9_seek_25 ?_
  refine lv_iconst (v := 0) hx hb dX9_seek_28 (by decide) ?_
  refine lv_iconst (v := (-1)) hx hb dX9_seek_29 (by decide) ?_
  refine va_iast hx hb hG.1 hP hD hS 0 0 rfl rfl (by unfold vp_in; decide) dX9_seek_30 (fun H locs hP hD hS => ?_)
  have hP : va_P G.1 vwCl [(wb, eI G 6 (upd (fun _ => 0) (Int32.toNatClampNeg 0) (-1))), (a, eO 8 [.ref wa, .ref wb, .ref wc, .ref wd, .int 0, .int 0]), (bk, eO 0 [.ref pe, .ref fa, .ref ro, .ref ac, .ref tr, .ref la, .ref tx, .int 5, .int 20]), (tr, eO 5 [.int 10, .int 70, .ref tra, .int 0])] H := hP
  have hD : va_D A [(wb, eI G 6 (upd (fun _ => 0) (Int32.toNatClampNeg 0) (-1))), (a, eO 8 [.ref wa, .ref wb, .ref wc, .ref wd, .int 0, .int 0]), (bk, eO 0 [.ref pe, .ref fa, .ref ro, .ref ac, .ref tr, .ref la, .ref tx, .int 5, .int 20]), (tr, eO 5 [.int 10, .int 70, .ref tra, .int 0])] := hD
  refine lv_iconst (v := 0) hx hb dX9_seek_31 (by decide) ?_
  refine lv_istore (lv' := [(4, .int 0), (3, .int 0), (0, .ref a), (1, .ref bk), (2, .int a1)]) hx hb dX9_seek_32 hl (by decide) rfl (fun ls hl => ?_)
  refine lv_iload hx hb dX9_seek_34 (lv_at hl 0 rfl) ?_
  refine lv_ldc (v := 1000000) hx hb hown (hts (.constant RX9 35 (1000000)) w_826) dX9_seek_36 ?_
  refine lv_icmp_ge (tgt := 166) hx hb dX9_seek_38 (by decide) (fun c_38 => absurd c_38 (by decide)) (fun c_38 => ?_)
  refine lv_iload_n hx hb dX9_seek_41 rfl (lv_at hl 1 rfl) ?_
  refine lv_if_lt (tgt := 166) hx hb dX9_seek_42 (by decide) (fun c_42 => absurd c_42 (by decide)) (fun c_42 => ?_)
  refine lv_iload_n hx hb dX9_seek_45 rfl (lv_at hl 1 rfl) ?_
  refine lv_aload_n hx hb dX9_seek_46 rfl (lv_at hl 2 rfl) ?_
  refine va_get (D := G.1) (ci := 8) (v := .int 0) (C := RX9) (T := TX9) (N := 6) hx hb hts inlX9 hown hG.1 hP 1 rfl rfl 4 (by decide) (hts (.fieldLink RX9 24 "SwornLists$Waits" "many" "I") w_824) (fun _ h9 => h9) rfl dX9_seek_47 ?_
  refine lv_icmp_ge (tgt := 166) hx hb dX9_seek_50 (by decide) (fun c_50 => ?_) (fun c_50 => absurd (by decide) c_50)
  have hP9 := hP.sub (ws' := [(a, eO 8 [.ref wa, .ref wb, .ref wc, .ref wd, .int 0, .int 0]), (bk, eO 0 [.ref pe, .ref fa, .ref ro, .ref ac, .ref tr, .ref la, .ref tx, .int 5, .int 20]), (tr, eO 5 [.int 10, .int 70, .ref tra, .int 0])]) [1, 2, 3] rfl
  have hD9 := hD.sub (ws' := [(a, eO 8 [.ref wa, .ref wb, .ref wc, .ref wd, .int 0, .int 0]), (bk, eO 0 [.ref pe, .ref fa, .ref ro, .ref ac, .ref tr, .ref la, .ref tx, .int 5, .int 20]), (tr, eO 5 [.int 10, .int 70, .ref tra, .int 0])]) [1, 2, 3] (by decide) rfl
  exact W.vret hx hb hr (fun t ht hW => ⟨⟨(), rfl, (trivial), ⟨by rw [ht]; exact hP9, hD9⟩⟩, hS.F ht⟩) hS.2.2 dX9_seek_166
set_option maxHeartbeats 4000000 in
set_option maxRecDepth 100000 in
theorem c_isNextDay0 (l : Launch) (G : gW) (x : Nat) (ct : Nat) (bk : Nat) (im : Nat) (kp : Nat) (rd : Nat) (fr : Nat) (wt : Nat) (pe : Nat) (fa : Nat) (ro : Nat) (ac : Nat) (tr : Nat) (la : Nat) (tx : Nat) (tra : Nat) (a1 : Int32)  : Met l yX10_isNextDay (wsT yX10_isNextDay cX10_isNextDay 3 (some .boolean)) ({ frames := 2, cells := 0, slots := 0, locals := 42 }) (rP G [.ref x, .int a1] [(x, eO 9 [.ref ct, .ref bk, .ref im, .ref kp, .ref rd, .ref fr, .ref wt]), (bk, eO 0 [.ref pe, .ref fa, .ref ro, .ref ac, .ref tr, .ref la, .ref tx, .int 5, .int 20]), (tr, eO 5 [.int 10, .int 70, .ref tra, .int 0])]) (rQi (fun r => r = b2 (inB 0 a1 9999 = true))) 0 0 fr0 := by
  refine Met.ofW (cc := cX10_isNextDay) (maxL := 3) (ret := (some .boolean)) (by decide) rfl ?_
  intro p e s m args below meth c s₁ B hml hv
  obtain ⟨rfl, hP, hG⟩ := hv
  have hx := B.exec
  have hb := B.bytes
  have hr := B.returns
  have hts := my_hts (atoms_spec (ws := wsT yX10_isNextDay cX10_isNextDay 3 (some .boolean)) B.pre)
  have hown : s.vm.findClass RX10 = some m.cls := findClass_of_methodNamed B.named
  have hlocks := B.notSynchronized
  have hP : va_P G.1 vwCl [(x, eO 9 [.ref ct, .ref bk, .ref im, .ref kp, .ref rd, .ref fr, .ref wt]), (bk, eO 0 [.ref pe, .ref fa, .ref ro, .ref ac, .ref tr, .ref la, .ref tx, .int 5, .int 20]), (tr, eO 5 [.int 10, .int 70, .ref tra, .int 0])] s.heap := hP
  have hl := lv_entry ([.ref x, .int a1]) (n := 3) (Nat.le_of_ble_eq_true rfl)
  rw [lg_entry_eq]
  generalize (lg_sl ([.ref x, .int a1]) ++ List.replicate (3 - (lg_sl ([.ref x, .int a1])).length) Slot.unset).toArray = ls at hl ⊢
  have hl : lv_has ls 3 [(0, .ref x), (1, .int a1)] := hl
  refine lv_aload_n hx hb dX10_isNextDay_0 rfl (lv_at hl 0 rfl) ?_
  refine va_get (D := G.1) (ci := 9) (v := .ref bk) (C := RX10) (T := TX10) (N := 7) hx hb hts inlX10 hown hG.1 hP 0 rfl rfl 1 (by decide) (hts (.fieldLink RX10 20 "SwornLists" "book" "LSwornLists$Book;") w_16) (fun _ h9 => h9) rfl dX10_isNextDay_1 ?_
  refine va_getN (D := G.1) (ci := 0) (v := .ref tr) (C := RX0) (T := TX0) (N := 9) (host := RX10) hx hb hts inlX0 hown hG.1 hP 1 rfl rfl 4 (by decide) (va_Nw.use rfl (hG.2.1 (.fieldLinkNest RX10 162 RX0 "trials" "LSwornLists$Rows;" RX10) (List.mem_of_getElem? (i := 7) rfl))) (fun _ h9 => h9) rfl dX10_isNextDay_4 ?_
  have hPc := hP.sub (ws' := [(tr, eO 5 [.int 10, .int 70, .ref tra, .int 0])]) [2] rfl
  refine rd_calli (va_runV (As := []) (rest := []) ⟨hx, hb, hml, hown, hts⟩ (c_size0 l G tr 10 70 tra ) (my_cwV hts ok_X5_size w_642 rfl rfl ⟨Nat.le_of_ble_eq_true rfl, Nat.le_of_ble_eq_true rfl⟩) ⟨rP.blind, va_recv hG.1 hPc (ci := 5) (q0 := 0) rfl rfl, fun U hU hW => ⟨rfl, by rw [hU]; exact hPc, kG.warm hW hG⟩⟩ rfl rfl hl.1 rfl (lv_room (Nat.le_of_ble_eq_true rfl)) dX10_isNextDay_7 ⟨Nat.le_of_ble_eq_true rfl, Nat.le_of_ble_eq_true rfl⟩) (fun r hr9 => ?_)
  subst hr9
  refine lv_istore_n (lv' := [(2, .int 0), (0, .ref x), (1, .int a1)]) hx hb dX10_isNextDay_10 rfl hl (by decide) rfl (fun ls hl => ?_)
  refine lv_iload_n hx hb dX10_isNextDay_11 rfl (lv_at hl 2 rfl) ?_
  have hPc := hP.sub (ws' := []) [] rfl
  refine rd_calli (va_runS (As := [.int a1]) (rest := []) ⟨hx, hb, hml, hown, hts⟩ (c_isDay l G a1 ) (my_cwS hts ok_X10_isDay w_178 rfl rfl ⟨Nat.le_of_ble_eq_true rfl, Nat.le_of_ble_eq_true rfl⟩) ⟨rP.blind, fun U hU hW => ⟨rfl, by rw [hU]; exact hPc, kG.warm hW hG⟩⟩ rfl rfl hl.1 rfl (lv_room (Nat.le_of_ble_eq_true rfl)) dX10_isNextDay_12 ⟨Nat.le_of_ble_eq_true rfl, Nat.le_of_ble_eq_true rfl⟩) (fun r hr9 => ?_)
  subst hr9
  refine my_ifeq (tgt := 44) hx hb dX10_isNextDay_15 (by decide) (fun c_15 => ?_) (fun c_15 => ?_)
  · refine lv_iconst (v := 0) hx hb dX10_isNextDay_44 (by decide) ?_
    exact W.zret (v := 0) hx hb hr (rfl) (fun t ht hW => ⟨_, rfl, (by first | exact (b2_f (by assumption)).symm | exact (b2_t (by assumption)).symm), ht⟩) (fun _ h => absurd h List.not_mem_nil) dX10_isNextDay_45
  · refine lv_iload_n hx hb dX10_isNextDay_18 rfl (lv_at hl 0 rfl) ?_
    refine lv_if_eq (tgt := 40) hx hb dX10_isNextDay_19 (by decide) (fun c_19 => ?_) (fun c_19 => absurd (by decide) c_19)
    refine lv_iconst (v := 1) hx hb dX10_isNextDay_40 (by decide) ?_
    refine lv_goto (tgt := 45) hx hb dX10_isNextDay_41 (by decide) ?_
    exact W.zret (v := 1) hx hb hr (rfl) (fun t ht hW => ⟨_, rfl, (by first | exact (b2_f (by assumption)).symm | exact (b2_t (by assumption)).symm), ht⟩) (fun _ h => absurd h List.not_mem_nil) dX10_isNextDay_45
set_option maxHeartbeats 4000000 in
set_option maxRecDepth 100000 in
theorem c_howMany0 (l : Launch) (G : gW) (x : Nat) (ct : Nat) (bk : Nat) (im : Nat) (kp : Nat) (rd : Nat) (fr : Nat) (wt : Nat) (pe : Nat) (fa : Nat) (ro : Nat) (ac : Nat) (tr : Nat) (la : Nat) (tx : Nat) (pea : Nat) (faa : Nat) (roa : Nat) (aca : Nat) (tra : Nat) (hs : Nat) (sp : Nat) (vl : Nat) (a1 : Int32)  : Met l yX10_howMany (wsT yX10_howMany cX10_howMany 2 (some .int)) ({ frames := 2, cells := 0, slots := 0, locals := 42 }) (rP G [.ref x, .int a1] [(x, eO 9 [.ref ct, .ref bk, .ref im, .ref kp, .ref rd, .ref fr, .ref wt]), (bk, eO 0 [.ref pe, .ref fa, .ref ro, .ref ac, .ref tr, .ref la, .ref tx, .int 5, .int 20]), (pe, eO 5 [.int 30, .int 4, .ref pea, .int 0]), (fa, eO 5 [.int 40, .int 3, .ref faa, .int 0]), (ro, eO 5 [.int 4, .int 3, .ref roa, .int 0]), (ac, eO 5 [.int 20, .int 3, .ref aca, .int 0]), (tr, eO 5 [.int 10, .int 70, .ref tra, .int 0]), (ct, eO 1 [.ref bk, .ref hs, .ref sp, .ref vl, .int 0])]) (rQi (fun r => r = 0)) 0 0 fr0 := by
  refine Met.ofW (cc := cX10_howMany) (maxL := 2) (ret := (some .int)) (by decide) rfl ?_
  intro p e s m args below meth c s₁ B hml hv
  obtain ⟨rfl, hP, hG⟩ := hv
  have hx := B.exec
  have hb := B.bytes
  have hr := B.returns
  have hts := my_hts (atoms_spec (ws := wsT yX10_howMany cX10_howMany 2 (some .int)) B.pre)
  have hown : s.vm.findClass RX10 = some m.cls := findClass_of_methodNamed B.named
  have hlocks := B.notSynchronized
  have hP : va_P G.1 vwCl [(x, eO 9 [.ref ct, .ref bk, .ref im, .ref kp, .ref rd, .ref fr, .ref wt]), (bk, eO 0 [.ref pe, .ref fa, .ref ro, .ref ac, .ref tr, .ref la, .ref tx, .int 5, .int 20]), (pe, eO 5 [.int 30, .int 4, .ref pea, .int 0]), (fa, eO 5 [.int 40, .int 3, .ref faa, .int 0]), (ro, eO 5 [.int 4, .int 3, .ref roa, .int 0]), (ac, eO 5 [.int 20, .int 3, .ref aca, .int 0]), (tr, eO 5 [.int 10, .int 70, .ref tra, .int 0]), (ct, eO 1 [.ref bk, .ref hs, .ref sp, .ref vl, .int 0])] s.heap := hP
  have hl := lv_entry ([.ref x, .int a1]) (n := 2) (Nat.le_of_ble_eq_true rfl)
  rw [lg_entry_eq]
  generalize (lg_sl ([.ref x, .int a1]) ++ List.replicate (2 - (lg_sl ([.ref x, .int a1])).length) Slot.unset).toArray = ls at hl ⊢
  have hl : lv_has ls 2 [(0, .ref x), (1, .int a1)] := hl
  refine lv_iload_n hx hb dX10_howMany_0 rfl (lv_at hl 1 rfl) ?_
  by_cases e_0 : a1 = 0
  · subst e_0
    refine lv_tableIn (off := 35) (tgt := 36) hx hb dX10_howMany_1 (by decide) (by decide) (by decide) (by decide) ?_
    refine lv_aload_n hx hb dX10_howMany_36 rfl (lv_at hl 0 rfl) ?_
    refine va_get (D := G.1) (ci := 9) (v := .ref bk) (C := RX10) (T := TX10) (N := 7) hx hb hts inlX10 hown hG.1 hP 0 rfl rfl 1 (by decide) (hts (.fieldLink RX10 20 "SwornLists" "book" "LSwornLists$Book;") w_16) (fun _ h9 => h9) rfl dX10_howMany_37 ?_
    refine va_getN (D := G.1) (ci := 0) (v := .ref pe) (C := RX0) (T := TX0) (N := 9) (host := RX10) hx hb hts inlX0 hown hG.1 hP 1 rfl rfl 0 (by decide) (va_Nw.use rfl (hG.2.1 (.fieldLinkNest RX10 57 RX0 "people" "LSwornLists$Rows;" RX10) (List.mem_of_getElem? (i := 0) rfl))) (fun _ h9 => h9) rfl dX10_howMany_40 ?_
    have hPc := hP.sub (ws' := [(pe, eO 5 [.int 30, .int 4, .ref pea, .int 0])]) [2] rfl
    refine rd_calli (va_runV (As := []) (rest := []) ⟨hx, hb, hml, hown, hts⟩ (c_size0 l G pe 30 4 pea ) (my_cwV hts ok_X5_size w_642 rfl rfl ⟨Nat.le_of_ble_eq_true rfl, Nat.le_of_ble_eq_true rfl⟩) ⟨rP.blind, va_recv hG.1 hPc (ci := 5) (q0 := 0) rfl rfl, fun U hU hW => ⟨rfl, by rw [hU]; exact hPc, kG.warm hW hG⟩⟩ rfl rfl hl.1 rfl (lv_room (Nat.le_of_ble_eq_true rfl)) dX10_howMany_43 ⟨Nat.le_of_ble_eq_true rfl, Nat.le_of_ble_eq_true rfl⟩) (fun r hr9 => ?_)
    subst hr9
    exact W.iret (v := 0) hx hb hr (fun t ht hW => ⟨_, rfl, (rfl), ht⟩) (fun _ h => absurd h List.not_mem_nil) dX10_howMany_46
  by_cases e_1 : a1 = 1
  · subst e_1
    refine lv_tableIn (off := 46) (tgt := 47) hx hb dX10_howMany_1 (by decide) (by decide) (by decide) (by decide) ?_
    refine lv_aload_n hx hb dX10_howMany_47 rfl (lv_at hl 0 rfl) ?_
    refine va_get (D := G.1) (ci := 9) (v := .ref bk) (C := RX10) (T := TX10) (N := 7) hx hb hts inlX10 hown hG.1 hP 0 rfl rfl 1 (by decide) (hts (.fieldLink RX10 20 "SwornLists" "book" "LSwornLists$Book;") w_16) (fun _ h9 => h9) rfl dX10_howMany_48 ?_
    refine va_getN (D := G.1) (ci := 0) (v := .ref fa) (C := RX0) (T := TX0) (N := 9) (host := RX10) hx hb hts inlX0 hown hG.1 hP 1 rfl rfl 1 (by decide) (va_Nw.use rfl (hG.2.1 (.fieldLinkNest RX10 82 RX0 "facts" "LSwornLists$Rows;" RX10) (List.mem_of_getElem? (i := 2) rfl))) (fun _ h9 => h9) rfl dX10_howMany_51 ?_
    have hPc := hP.sub (ws' := [(fa, eO 5 [.int 40, .int 3, .ref faa, .int 0])]) [3] rfl
    refine rd_calli (va_runV (As := []) (rest := []) ⟨hx, hb, hml, hown, hts⟩ (c_size0 l G fa 40 3 faa ) (my_cwV hts ok_X5_size w_642 rfl rfl ⟨Nat.le_of_ble_eq_true rfl, Nat.le_of_ble_eq_true rfl⟩) ⟨rP.blind, va_recv hG.1 hPc (ci := 5) (q0 := 0) rfl rfl, fun U hU hW => ⟨rfl, by rw [hU]; exact hPc, kG.warm hW hG⟩⟩ rfl rfl hl.1 rfl (lv_room (Nat.le_of_ble_eq_true rfl)) dX10_howMany_54 ⟨Nat.le_of_ble_eq_true rfl, Nat.le_of_ble_eq_true rfl⟩) (fun r hr9 => ?_)
    subst hr9
    exact W.iret (v := 0) hx hb hr (fun t ht hW => ⟨_, rfl, (rfl), ht⟩) (fun _ h => absurd h List.not_mem_nil) dX10_howMany_57
  by_cases e_2 : a1 = 2
  · subst e_2
    refine lv_tableIn (off := 57) (tgt := 58) hx hb dX10_howMany_1 (by decide) (by decide) (by decide) (by decide) ?_
    refine lv_aload_n hx hb dX10_howMany_58 rfl (lv_at hl 0 rfl) ?_
    refine va_get (D := G.1) (ci := 9) (v := .ref bk) (C := RX10) (T := TX10) (N := 7) hx hb hts inlX10 hown hG.1 hP 0 rfl rfl 1 (by decide) (hts (.fieldLink RX10 20 "SwornLists" "book" "LSwornLists$Book;") w_16) (fun _ h9 => h9) rfl dX10_howMany_59 ?_
    refine va_getN (D := G.1) (ci := 0) (v := .ref ro) (C := RX0) (T := TX0) (N := 9) (host := RX10) hx hb hts inlX0 hown hG.1 hP 1 rfl rfl 2 (by decide) (va_Nw.use rfl (hG.2.1 (.fieldLinkNest RX10 88 RX0 "rolls" "LSwornLists$Rows;" RX10) (List.mem_of_getElem? (i := 3) rfl))) (fun _ h9 => h9) rfl dX10_howMany_62 ?_
    have hPc := hP.sub (ws' := [(ro, eO 5 [.int 4, .int 3, .ref roa, .int 0])]) [4] rfl
    refine rd_calli (va_runV (As := []) (rest := []) ⟨hx, hb, hml, hown, hts⟩ (c_size0 l G ro 4 3 roa ) (my_cwV hts ok_X5_size w_642 rfl rfl ⟨Nat.le_of_ble_eq_true rfl, Nat.le_of_ble_eq_true rfl⟩) ⟨rP.blind, va_recv hG.1 hPc (ci := 5) (q0 := 0) rfl rfl, fun U hU hW => ⟨rfl, by rw [hU]; exact hPc, kG.warm hW hG⟩⟩ rfl rfl hl.1 rfl (lv_room (Nat.le_of_ble_eq_true rfl)) dX10_howMany_65 ⟨Nat.le_of_ble_eq_true rfl, Nat.le_of_ble_eq_true rfl⟩) (fun r hr9 => ?_)
    subst hr9
    exact W.iret (v := 0) hx hb hr (fun t ht hW => ⟨_, rfl, (rfl), ht⟩) (fun _ h => absurd h List.not_mem_nil) dX10_howMany_68
  by_cases e_3 : a1 = 3
  · subst e_3
    refine lv_tableIn (off := 68) (tgt := 69) hx hb dX10_howMany_1 (by decide) (by decide) (by decide) (by decide) ?_
    refine lv_aload_n hx hb dX10_howMany_69 rfl (lv_at hl 0 rfl) ?_
    refine va_get (D := G.1) (ci := 9) (v := .ref bk) (C := RX10) (T := TX10) (N := 7) hx hb hts inlX10 hown hG.1 hP 0 rfl rfl 1 (by decide) (hts (.fieldLink RX10 20 "SwornLists" "book" "LSwornLists$Book;") w_16) (fun _ h9 => h9) rfl dX10_howMany_70 ?_
    refine va_getN (D := G.1) (ci := 0) (v := .ref ac) (C := RX0) (T := TX0) (N := 9) (host := RX10) hx hb hts inlX0 hown hG.1 hP 1 rfl rfl 3 (by decide) (va_Nw.use rfl (hG.2.1 (.fieldLinkNest RX10 134 RX0 "acts" "LSwornLists$Rows;" RX10) (List.mem_of_getElem? (i := 4) rfl))) (fun _ h9 => h9) rfl dX10_howMany_73 ?_
    have hPc := hP.sub (ws' := [(ac, eO 5 [.int 20, .int 3, .ref aca, .int 0])]) [5] rfl
    refine rd_calli (va_runV (As := []) (rest := []) ⟨hx, hb, hml, hown, hts⟩ (c_size0 l G ac 20 3 aca ) (my_cwV hts ok_X5_size w_642 rfl rfl ⟨Nat.le_of_ble_eq_true rfl, Nat.le_of_ble_eq_true rfl⟩) ⟨rP.blind, va_recv hG.1 hPc (ci := 5) (q0 := 0) rfl rfl, fun U hU hW => ⟨rfl, by rw [hU]; exact hPc, kG.warm hW hG⟩⟩ rfl rfl hl.1 rfl (lv_room (Nat.le_of_ble_eq_true rfl)) dX10_howMany_76 ⟨Nat.le_of_ble_eq_true rfl, Nat.le_of_ble_eq_true rfl⟩) (fun r hr9 => ?_)
    subst hr9
    exact W.iret (v := 0) hx hb hr (fun t ht hW => ⟨_, rfl, (rfl), ht⟩) (fun _ h => absurd h List.not_mem_nil) dX10_howMany_79
  by_cases e_4 : a1 = 4
  · subst e_4
    refine lv_tableIn (off := 79) (tgt := 80) hx hb dX10_howMany_1 (by decide) (by decide) (by decide) (by decide) ?_
    refine lv_aload_n hx hb dX10_howMany_80 rfl (lv_at hl 0 rfl) ?_
    refine va_get (D := G.1) (ci := 9) (v := .ref bk) (C := RX10) (T := TX10) (N := 7) hx hb hts inlX10 hown hG.1 hP 0 rfl rfl 1 (by decide) (hts (.fieldLink RX10 20 "SwornLists" "book" "LSwornLists$Book;") w_16) (fun _ h9 => h9) rfl dX10_howMany_81 ?_
    refine va_getN (D := G.1) (ci := 0) (v := .ref tr) (C := RX0) (T := TX0) (N := 9) (host := RX10) hx hb hts inlX0 hown hG.1 hP 1 rfl rfl 4 (by decide) (va_Nw.use rfl (hG.2.1 (.fieldLinkNest RX10 162 RX0 "trials" "LSwornLists$Rows;" RX10) (List.mem_of_getElem? (i := 7) rfl))) (fun _ h9 => h9) rfl dX10_howMany_84 ?_
    have hPc := hP.sub (ws' := [(tr, eO 5 [.int 10, .int 70, .ref tra, .int 0])]) [6] rfl
    refine rd_calli (va_runV (As := []) (rest := []) ⟨hx, hb, hml, hown, hts⟩ (c_size0 l G tr 10 70 tra ) (my_cwV hts ok_X5_size w_642 rfl rfl ⟨Nat.le_of_ble_eq_true rfl, Nat.le_of_ble_eq_true rfl⟩) ⟨rP.blind, va_recv hG.1 hPc (ci := 5) (q0 := 0) rfl rfl, fun U hU hW => ⟨rfl, by rw [hU]; exact hPc, kG.warm hW hG⟩⟩ rfl rfl hl.1 rfl (lv_room (Nat.le_of_ble_eq_true rfl)) dX10_howMany_87 ⟨Nat.le_of_ble_eq_true rfl, Nat.le_of_ble_eq_true rfl⟩) (fun r hr9 => ?_)
    subst hr9
    exact W.iret (v := 0) hx hb hr (fun t ht hW => ⟨_, rfl, (rfl), ht⟩) (fun _ h => absurd h List.not_mem_nil) dX10_howMany_90
  have n_0 : a1.toInt ≠ 0 := fun z => e_0 (Int32.toInt_inj.mp (z.trans (by decide)))
  have n_1 : a1.toInt ≠ 1 := fun z => e_1 (Int32.toInt_inj.mp (z.trans (by decide)))
  have n_2 : a1.toInt ≠ 2 := fun z => e_2 (Int32.toInt_inj.mp (z.trans (by decide)))
  have n_3 : a1.toInt ≠ 3 := fun z => e_3 (Int32.toInt_inj.mp (z.trans (by decide)))
  have n_4 : a1.toInt ≠ 4 := fun z => e_4 (Int32.toInt_inj.mp (z.trans (by decide)))
  refine lv_tableOut (tgt := 91) hx hb dX10_howMany_1 (by omega) (by decide) ?_
  refine lv_aload_n hx hb dX10_howMany_91 rfl (lv_at hl 0 rfl) ?_
  refine va_get (D := G.1) (ci := 9) (v := .ref ct) (C := RX10) (T := TX10) (N := 7) hx hb hts inlX10 hown hG.1 hP 0 rfl rfl 0 (by decide) (hts (.fieldLink RX10 12 "SwornLists" "court" "LSwornLists$Court;") w_15) (fun _ h9 => h9) rfl dX10_howMany_92 ?_
  have hPc := hP.sub (ws' := [(ct, eO 1 [.ref bk, .ref hs, .ref sp, .ref vl, .int 0]), (bk, eO 0 [.ref pe, .ref fa, .ref ro, .ref ac, .ref tr, .ref la, .ref tx, .int 5, .int 20]), (tr, eO 5 [.int 10, .int 70, .ref tra, .int 0])]) [7, 1, 6] rfl
  refine rd_calli (va_runV (As := []) (rest := []) ⟨hx, hb, hml, hown, hts⟩ (c_sworn0 l G ct bk hs sp vl pe fa ro ac tr la tx tra ) (my_cwV hts ok_X1_sworn w_930 rfl rfl ⟨Nat.le_of_ble_eq_true rfl, Nat.le_of_ble_eq_true rfl⟩) ⟨rP.blind, va_recv hG.1 hPc (ci := 1) (q0 := 0) rfl rfl, fun U hU hW => ⟨rfl, by rw [hU]; exact hPc, kG.warm hW hG⟩⟩ rfl rfl hl.1 rfl (lv_room (Nat.le_of_ble_eq_true rfl)) dX10_howMany_95 ⟨Nat.le_of_ble_eq_true rfl, Nat.le_of_ble_eq_true rfl⟩) (fun r hr9 => ?_)
  subst hr9
  exact W.iret (v := 0) hx hb hr (fun t ht hW => ⟨_, rfl, (rfl), ht⟩) (fun _ h => absurd h List.not_mem_nil) dX10_howMany_98
