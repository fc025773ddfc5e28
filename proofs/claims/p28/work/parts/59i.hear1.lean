theorem ush_n {x : Int32} : (Int32.toUInt32 x >>> (Int32.toUInt32 16 &&& Int32.toUInt32 31)).toInt32 = nI (x.toBitVec.toNat / 65536) := by
  have hlt := x.toBitVec.isLt
  apply Int32.toBitVec_inj.mp
  apply BitVec.eq_of_toNat_eq
  rw [pk_ushr x 16 16 (by decide), bvn (by omega)]
theorem cnt_3032 {x : Int32} (h : ∀ k, 30 ≤ k → bt x k = false) : cnt x 32 = cnt x 30 := cnt_up (n := 30) 2 (fun k h1 _ => h k h1)
theorem colQ {sd p : Nat} : (10 : Int32) + nI sd * 30 + nI p = nI (30 * sd + p + 10) := by
  rw [show (10 : Int32) = nI 10 from rfl, show (30 : Int32) = nI 30 from rfl, nI_mulq, nI_add, nI_add]; congr 1; omega
theorem nI_b9 {x : Int32} {n : Nat} (h : x = nI n) (hn : n < 2 ^ 31) : x.toNatClampNeg = n := by rw [h, nI_clamp hn]
set_option maxHeartbeats 4000000 in
set_option maxRecDepth 100000 in
theorem s_bitCountE (l : Launch) (G : gW) (g : Nat → Nat) (hg : gOK g) (f : Nat → va_E) (n : Int32)   : Met l yJ6_bitCount_0f7a4 (wsT yJ6_bitCount_0f7a4 cJ6_bitCount_0f7a4 1 (some .int)) ({ frames := 0, cells := 0, slots := 0, locals := 0 }) (bP G g f [.int n]) (rQi (fun z9 => z9 = nI (cnt n 32))) 0 0 fr0 := by
  refine Met.ofW (cc := cJ6_bitCount_0f7a4) (maxL := 1) (ret := (some .int)) (by decide) rfl ?_
  intro p e s m args below meth c s₁ B hml hv
  obtain ⟨rfl, hP, hG⟩ := hv
  have hx := B.exec
  have hb := B.bytes
  have hr := B.returns
  have hts := my_hts (atoms_spec (ws := wsT yJ6_bitCount_0f7a4 cJ6_bitCount_0f7a4 1 (some .int)) B.pre)
  have hown : s.vm.findClass RJ6 = some m.cls := findClass_of_methodNamed B.named
  have hlocks := B.notSynchronized
  have hl := lv_entry ([.int n]) (n := 1) (Nat.le_of_ble_eq_true rfl)
  rw [lg_entry_eq]
  generalize (lg_sl ([.int n]) ++ List.replicate (1 - (lg_sl ([.int n])).length) Slot.unset).toArray = ls at hl ⊢
  have hl : lv_has ls 1 [(0, .int n)] := hl
  refine W_q8 (fun Q9 hQ9 => ?_)
  refine lv_iload_n hx hb dJ6_bitCount_0f7a4_0 rfl (lv_at hl 0 rfl) ?_
  refine lv_iload_n hx hb dJ6_bitCount_0f7a4_1 rfl (lv_at hl 0 rfl) ?_
  refine lv_iconst (v := 1) hx hb dJ6_bitCount_0f7a4_2 (by decide) ?_
  refine lv_iushr hx hb dJ6_bitCount_0f7a4_3 rfl ?_
  refine lv_ldcw (v := 1431655765) hx hb hown (hts (.constant RJ6 265 (1431655765)) w_487) dJ6_bitCount_0f7a4_4 ?_
  refine lv_iand hx hb dJ6_bitCount_0f7a4_7 ?_
  refine lv_isub hx hb dJ6_bitCount_0f7a4_8 ?_
  refine lv_istore_n (lv' := [(0, .int (n - (((Int32.toUInt32 n >>> (Int32.toUInt32 1 &&& Int32.toUInt32 31)).toInt32) &&& 1431655765)))]) hx hb dJ6_bitCount_0f7a4_9 rfl hl (by decide) rfl (fun ls hl => ?_)
  refine lv_iload_n hx hb dJ6_bitCount_0f7a4_10 rfl (lv_at hl 0 rfl) ?_
  refine lv_ldcw (v := 858993459) hx hb hown (hts (.constant RJ6 266 (858993459)) w_488) dJ6_bitCount_0f7a4_11 ?_
  refine lv_iand hx hb dJ6_bitCount_0f7a4_14 ?_
  refine lv_iload_n hx hb dJ6_bitCount_0f7a4_15 rfl (lv_at hl 0 rfl) ?_
  refine lv_iconst (v := 2) hx hb dJ6_bitCount_0f7a4_16 (by decide) ?_
  refine lv_iushr hx hb dJ6_bitCount_0f7a4_17 rfl ?_
  refine lv_ldcw (v := 858993459) hx hb hown (hts (.constant RJ6 266 (858993459)) w_488) dJ6_bitCount_0f7a4_18 ?_
  refine lv_iand hx hb dJ6_bitCount_0f7a4_21 ?_
  refine lv_iadd hx hb dJ6_bitCount_0f7a4_22 ?_
  refine lv_istore_n (lv' := [(0, .int (((n - (((Int32.toUInt32 n >>> (Int32.toUInt32 1 &&& Int32.toUInt32 31)).toInt32) &&& 1431655765)) &&& 858993459) + (((Int32.toUInt32 (n - (((Int32.toUInt32 n >>> (Int32.toUInt32 1 &&& Int32.toUInt32 31)).toInt32) &&& 1431655765)) >>> (Int32.toUInt32 2 &&& Int32.toUInt32 31)).toInt32) &&& 858993459)))]) hx hb dJ6_bitCount_0f7a4_23 rfl hl (by decide) rfl (fun ls hl => ?_)
  refine lv_iload_n hx hb dJ6_bitCount_0f7a4_24 rfl (lv_at hl 0 rfl) ?_
  refine lv_iload_n hx hb dJ6_bitCount_0f7a4_25 rfl (lv_at hl 0 rfl) ?_
  refine lv_iconst (v := 4) hx hb dJ6_bitCount_0f7a4_26 (by decide) ?_
  refine lv_iushr hx hb dJ6_bitCount_0f7a4_27 rfl ?_
  refine lv_iadd hx hb dJ6_bitCount_0f7a4_28 ?_
  refine lv_ldcw (v := 252645135) hx hb hown (hts (.constant RJ6 267 (252645135)) w_489) dJ6_bitCount_0f7a4_29 ?_
  refine lv_iand hx hb dJ6_bitCount_0f7a4_32 ?_
  refine lv_istore_n (lv' := [(0, .int (((((n - (((Int32.toUInt32 n >>> (Int32.toUInt32 1 &&& Int32.toUInt32 31)).toInt32) &&& 1431655765)) &&& 858993459) + (((Int32.toUInt32 (n - (((Int32.toUInt32 n >>> (Int32.toUInt32 1 &&& Int32.toUInt32 31)).toInt32) &&& 1431655765)) >>> (Int32.toUInt32 2 &&& Int32.toUInt32 31)).toInt32) &&& 858993459)) + ((Int32.toUInt32 (((n - (((Int32.toUInt32 n >>> (Int32.toUInt32 1 &&& Int32.toUInt32 31)).toInt32) &&& 1431655765)) &&& 858993459) + (((Int32.toUInt32 (n - (((Int32.toUInt32 n >>> (Int32.toUInt32 1 &&& Int32.toUInt32 31)).toInt32) &&& 1431655765)) >>> (Int32.toUInt32 2 &&& Int32.toUInt32 31)).toInt32) &&& 858993459)) >>> (Int32.toUInt32 4 &&& Int32.toUInt32 31)).toInt32)) &&& 252645135))]) hx hb dJ6_bitCount_0f7a4_33 rfl hl (by decide) rfl (fun ls hl => ?_)
  refine lv_iload_n hx hb dJ6_bitCount_0f7a4_34 rfl (lv_at hl 0 rfl) ?_
  refine lv_iload_n hx hb dJ6_bitCount_0f7a4_35 rfl (lv_at hl 0 rfl) ?_
  refine lv_bipush (v := 8) hx hb dJ6_bitCount_0f7a4_36 (by decide) ?_
  refine lv_iushr hx hb dJ6_bitCount_0f7a4_38 rfl ?_
  refine lv_iadd hx hb dJ6_bitCount_0f7a4_39 ?_
  refine lv_istore_n (lv' := [(0, .int ((((((n - (((Int32.toUInt32 n >>> (Int32.toUInt32 1 &&& Int32.toUInt32 31)).toInt32) &&& 1431655765)) &&& 858993459) + (((Int32.toUInt32 (n - (((Int32.toUInt32 n >>> (Int32.toUInt32 1 &&& Int32.toUInt32 31)).toInt32) &&& 1431655765)) >>> (Int32.toUInt32 2 &&& Int32.toUInt32 31)).toInt32) &&& 858993459)) + ((Int32.toUInt32 (((n - (((Int32.toUInt32 n >>> (Int32.toUInt32 1 &&& Int32.toUInt32 31)).toInt32) &&& 1431655765)) &&& 858993459) + (((Int32.toUInt32 (n - (((Int32.toUInt32 n >>> (Int32.toUInt32 1 &&& Int32.toUInt32 31)).toInt32) &&& 1431655765)) >>> (Int32.toUInt32 2 &&& Int32.toUInt32 31)).toInt32) &&& 858993459)) >>> (Int32.toUInt32 4 &&& Int32.toUInt32 31)).toInt32)) &&& 252645135) + ((Int32.toUInt32 (((((n - (((Int32.toUInt32 n >>> (Int32.toUInt32 1 &&& Int32.toUInt32 31)).toInt32) &&& 1431655765)) &&& 858993459) + (((Int32.toUInt32 (n - (((Int32.toUInt32 n >>> (Int32.toUInt32 1 &&& Int32.toUInt32 31)).toInt32) &&& 1431655765)) >>> (Int32.toUInt32 2 &&& Int32.toUInt32 31)).toInt32) &&& 858993459)) + ((Int32.toUInt32 (((n - (((Int32.toUInt32 n >>> (Int32.toUInt32 1 &&& Int32.toUInt32 31)).toInt32) &&& 1431655765)) &&& 858993459) + (((Int32.toUInt32 (n - (((Int32.toUInt32 n >>> (Int32.toUInt32 1 &&& Int32.toUInt32 31)).toInt32) &&& 1431655765)) >>> (Int32.toUInt32 2 &&& Int32.toUInt32 31)).toInt32) &&& 858993459)) >>> (Int32.toUInt32 4 &&& Int32.toUInt32 31)).toInt32)) &&& 252645135) >>> (Int32.toUInt32 8 &&& Int32.toUInt32 31)).toInt32)))]) hx hb dJ6_bitCount_0f7a4_40 rfl hl (by decide) rfl (fun ls hl => ?_)
  refine lv_iload_n hx hb dJ6_bitCount_0f7a4_41 rfl (lv_at hl 0 rfl) ?_
  refine lv_iload_n hx hb dJ6_bitCount_0f7a4_42 rfl (lv_at hl 0 rfl) ?_
  refine lv_bipush (v := 16) hx hb dJ6_bitCount_0f7a4_43 (by decide) ?_
  refine lv_iushr hx hb dJ6_bitCount_0f7a4_45 rfl ?_
  refine lv_iadd hx hb dJ6_bitCount_0f7a4_46 ?_
  refine lv_istore_n (lv' := [(0, .int (((((((n - (((Int32.toUInt32 n >>> (Int32.toUInt32 1 &&& Int32.toUInt32 31)).toInt32) &&& 1431655765)) &&& 858993459) + (((Int32.toUInt32 (n - (((Int32.toUInt32 n >>> (Int32.toUInt32 1 &&& Int32.toUInt32 31)).toInt32) &&& 1431655765)) >>> (Int32.toUInt32 2 &&& Int32.toUInt32 31)).toInt32) &&& 858993459)) + ((Int32.toUInt32 (((n - (((Int32.toUInt32 n >>> (Int32.toUInt32 1 &&& Int32.toUInt32 31)).toInt32) &&& 1431655765)) &&& 858993459) + (((Int32.toUInt32 (n - (((Int32.toUInt32 n >>> (Int32.toUInt32 1 &&& Int32.toUInt32 31)).toInt32) &&& 1431655765)) >>> (Int32.toUInt32 2 &&& Int32.toUInt32 31)).toInt32) &&& 858993459)) >>> (Int32.toUInt32 4 &&& Int32.toUInt32 31)).toInt32)) &&& 252645135) + ((Int32.toUInt32 (((((n - (((Int32.toUInt32 n >>> (Int32.toUInt32 1 &&& Int32.toUInt32 31)).toInt32) &&& 1431655765)) &&& 858993459) + (((Int32.toUInt32 (n - (((Int32.toUInt32 n >>> (Int32.toUInt32 1 &&& Int32.toUInt32 31)).toInt32) &&& 1431655765)) >>> (Int32.toUInt32 2 &&& Int32.toUInt32 31)).toInt32) &&& 858993459)) + ((Int32.toUInt32 (((n - (((Int32.toUInt32 n >>> (Int32.toUInt32 1 &&& Int32.toUInt32 31)).toInt32) &&& 1431655765)) &&& 858993459) + (((Int32.toUInt32 (n - (((Int32.toUInt32 n >>> (Int32.toUInt32 1 &&& Int32.toUInt32 31)).toInt32) &&& 1431655765)) >>> (Int32.toUInt32 2 &&& Int32.toUInt32 31)).toInt32) &&& 858993459)) >>> (Int32.toUInt32 4 &&& Int32.toUInt32 31)).toInt32)) &&& 252645135) >>> (Int32.toUInt32 8 &&& Int32.toUInt32 31)).toInt32)) + ((Int32.toUInt32 ((((((n - (((Int32.toUInt32 n >>> (Int32.toUInt32 1 &&& Int32.toUInt32 31)).toInt32) &&& 1431655765)) &&& 858993459) + (((Int32.toUInt32 (n - (((Int32.toUInt32 n >>> (Int32.toUInt32 1 &&& Int32.toUInt32 31)).toInt32) &&& 1431655765)) >>> (Int32.toUInt32 2 &&& Int32.toUInt32 31)).toInt32) &&& 858993459)) + ((Int32.toUInt32 (((n - (((Int32.toUInt32 n >>> (Int32.toUInt32 1 &&& Int32.toUInt32 31)).toInt32) &&& 1431655765)) &&& 858993459) + (((Int32.toUInt32 (n - (((Int32.toUInt32 n >>> (Int32.toUInt32 1 &&& Int32.toUInt32 31)).toInt32) &&& 1431655765)) >>> (Int32.toUInt32 2 &&& Int32.toUInt32 31)).toInt32) &&& 858993459)) >>> (Int32.toUInt32 4 &&& Int32.toUInt32 31)).toInt32)) &&& 252645135) + ((Int32.toUInt32 (((((n - (((Int32.toUInt32 n >>> (Int32.toUInt32 1 &&& Int32.toUInt32 31)).toInt32) &&& 1431655765)) &&& 858993459) + (((Int32.toUInt32 (n - (((Int32.toUInt32 n >>> (Int32.toUInt32 1 &&& Int32.toUInt32 31)).toInt32) &&& 1431655765)) >>> (Int32.toUInt32 2 &&& Int32.toUInt32 31)).toInt32) &&& 858993459)) + ((Int32.toUInt32 (((n - (((Int32.toUInt32 n >>> (Int32.toUInt32 1 &&& Int32.toUInt32 31)).toInt32) &&& 1431655765)) &&& 858993459) + (((Int32.toUInt32 (n - (((Int32.toUInt32 n >>> (Int32.toUInt32 1 &&& Int32.toUInt32 31)).toInt32) &&& 1431655765)) >>> (Int32.toUInt32 2 &&& Int32.toUInt32 31)).toInt32) &&& 858993459)) >>> (Int32.toUInt32 4 &&& Int32.toUInt32 31)).toInt32)) &&& 252645135) >>> (Int32.toUInt32 8 &&& Int32.toUInt32 31)).toInt32)) >>> (Int32.toUInt32 16 &&& Int32.toUInt32 31)).toInt32)))]) hx hb dJ6_bitCount_0f7a4_47 rfl hl (by decide) rfl (fun ls hl => ?_)
  refine lv_iload_n hx hb dJ6_bitCount_0f7a4_48 rfl (lv_at hl 0 rfl) ?_
  refine lv_bipush (v := 63) hx hb dJ6_bitCount_0f7a4_49 (by decide) ?_
  refine lv_iand hx hb dJ6_bitCount_0f7a4_51 ?_
  refine W_q9 hQ9 ?_
  exact W.iret (v := (((((((n - (((Int32.toUInt32 n >>> (Int32.toUInt32 1 &&& Int32.toUInt32 31)).toInt32) &&& 1431655765)) &&& 858993459) + (((Int32.toUInt32 (n - (((Int32.toUInt32 n >>> (Int32.toUInt32 1 &&& Int32.toUInt32 31)).toInt32) &&& 1431655765)) >>> (Int32.toUInt32 2 &&& Int32.toUInt32 31)).toInt32) &&& 858993459)) + ((Int32.toUInt32 (((n - (((Int32.toUInt32 n >>> (Int32.toUInt32 1 &&& Int32.toUInt32 31)).toInt32) &&& 1431655765)) &&& 858993459) + (((Int32.toUInt32 (n - (((Int32.toUInt32 n >>> (Int32.toUInt32 1 &&& Int32.toUInt32 31)).toInt32) &&& 1431655765)) >>> (Int32.toUInt32 2 &&& Int32.toUInt32 31)).toInt32) &&& 858993459)) >>> (Int32.toUInt32 4 &&& Int32.toUInt32 31)).toInt32)) &&& 252645135) + ((Int32.toUInt32 (((((n - (((Int32.toUInt32 n >>> (Int32.toUInt32 1 &&& Int32.toUInt32 31)).toInt32) &&& 1431655765)) &&& 858993459) + (((Int32.toUInt32 (n - (((Int32.toUInt32 n >>> (Int32.toUInt32 1 &&& Int32.toUInt32 31)).toInt32) &&& 1431655765)) >>> (Int32.toUInt32 2 &&& Int32.toUInt32 31)).toInt32) &&& 858993459)) + ((Int32.toUInt32 (((n - (((Int32.toUInt32 n >>> (Int32.toUInt32 1 &&& Int32.toUInt32 31)).toInt32) &&& 1431655765)) &&& 858993459) + (((Int32.toUInt32 (n - (((Int32.toUInt32 n >>> (Int32.toUInt32 1 &&& Int32.toUInt32 31)).toInt32) &&& 1431655765)) >>> (Int32.toUInt32 2 &&& Int32.toUInt32 31)).toInt32) &&& 858993459)) >>> (Int32.toUInt32 4 &&& Int32.toUInt32 31)).toInt32)) &&& 252645135) >>> (Int32.toUInt32 8 &&& Int32.toUInt32 31)).toInt32)) + ((Int32.toUInt32 ((((((n - (((Int32.toUInt32 n >>> (Int32.toUInt32 1 &&& Int32.toUInt32 31)).toInt32) &&& 1431655765)) &&& 858993459) + (((Int32.toUInt32 (n - (((Int32.toUInt32 n >>> (Int32.toUInt32 1 &&& Int32.toUInt32 31)).toInt32) &&& 1431655765)) >>> (Int32.toUInt32 2 &&& Int32.toUInt32 31)).toInt32) &&& 858993459)) + ((Int32.toUInt32 (((n - (((Int32.toUInt32 n >>> (Int32.toUInt32 1 &&& Int32.toUInt32 31)).toInt32) &&& 1431655765)) &&& 858993459) + (((Int32.toUInt32 (n - (((Int32.toUInt32 n >>> (Int32.toUInt32 1 &&& Int32.toUInt32 31)).toInt32) &&& 1431655765)) >>> (Int32.toUInt32 2 &&& Int32.toUInt32 31)).toInt32) &&& 858993459)) >>> (Int32.toUInt32 4 &&& Int32.toUInt32 31)).toInt32)) &&& 252645135) + ((Int32.toUInt32 (((((n - (((Int32.toUInt32 n >>> (Int32.toUInt32 1 &&& Int32.toUInt32 31)).toInt32) &&& 1431655765)) &&& 858993459) + (((Int32.toUInt32 (n - (((Int32.toUInt32 n >>> (Int32.toUInt32 1 &&& Int32.toUInt32 31)).toInt32) &&& 1431655765)) >>> (Int32.toUInt32 2 &&& Int32.toUInt32 31)).toInt32) &&& 858993459)) + ((Int32.toUInt32 (((n - (((Int32.toUInt32 n >>> (Int32.toUInt32 1 &&& Int32.toUInt32 31)).toInt32) &&& 1431655765)) &&& 858993459) + (((Int32.toUInt32 (n - (((Int32.toUInt32 n >>> (Int32.toUInt32 1 &&& Int32.toUInt32 31)).toInt32) &&& 1431655765)) >>> (Int32.toUInt32 2 &&& Int32.toUInt32 31)).toInt32) &&& 858993459)) >>> (Int32.toUInt32 4 &&& Int32.toUInt32 31)).toInt32)) &&& 252645135) >>> (Int32.toUInt32 8 &&& Int32.toUInt32 31)).toInt32)) >>> (Int32.toUInt32 16 &&& Int32.toUInt32 31)).toInt32)) &&& 63) hx hb hr (fun _ hT9 _ => ⟨_, rfl, (bc_eq n), hT9⟩) (fun _ h => absurd h List.not_mem_nil) dJ6_bitCount_0f7a4_52
set_option maxHeartbeats 4000000 in
set_option maxRecDepth 100000 in
theorem h_bitAtE (l : Launch) (G : gW) (g : Nat → Nat) (hg : gOK g) (f : Nat → va_E) (n : Int32) (kq : Nat)  (hkq : kq < cnt n 30) : Met l yX3_bitAt (wsT yX3_bitAt cX3_bitAt 4 (some .int)) ({ frames := 1, cells := 0, slots := 0, locals := 21 }) (bP G g f [.int n, .int (nI kq)]) (rQi (fun z9 => z9 = nI (nthB n kq))) 0 0 fr0 := by
  refine Met.ofW (cc := cX3_bitAt) (maxL := 4) (ret := (some .int)) (by decide) rfl ?_
  intro p e s m args below meth c s₁ B hml hv
  obtain ⟨rfl, hP, hG⟩ := hv
  have hx := B.exec
  have hb := B.bytes
  have hr := B.returns
  have hts := my_hts (atoms_spec (ws := wsT yX3_bitAt cX3_bitAt 4 (some .int)) B.pre)
  have hown : s.vm.findClass RX3 = some m.cls := findClass_of_methodNamed B.named
  have hlocks := B.notSynchronized
  have hl := lv_entry ([.int n, .int (nI kq)]) (n := 4) (Nat.le_of_ble_eq_true rfl)
  rw [lg_entry_eq]
  generalize (lg_sl ([.int n, .int (nI kq)]) ++ List.replicate (4 - (lg_sl ([.int n, .int (nI kq)])).length) Slot.unset).toArray = ls at hl ⊢
  have hl : lv_has ls 4 [(0, .int n), (1, .int (nI kq))] := hl
  refine W_q8 (fun Q9 hQ9 => ?_)
  refine lv_iconst (v := 0) hx hb dX3_bitAt_0 (by decide) ?_
  refine lv_istore_n (lv' := [(2, .int 0), (0, .int n), (1, .int (nI kq))]) hx hb dX3_bitAt_1 rfl hl (by decide) rfl (fun ls hl => ?_)
  refine lv_iconst (v := 0) hx hb dX3_bitAt_2 (by decide) ?_
  refine lv_istore_n (lv' := [(3, .int 0), (2, .int 0), (0, .int n), (1, .int (nI kq))]) hx hb dX3_bitAt_3 rfl hl (by decide) rfl (fun ls hl => ?_)
  have key1 : ∀ (n9_1 : Nat) (i : Nat) (u : Nat) (ls : Array Slot), (i ≤ 30) → (u = cnt n i) → (u ≤ kq) → 30 - i < n9_1 → lv_has ls 4 [(0, .int n), (1, .int (nI kq)), (2, .int (nI u)), (3, .int (nI i))] → W p l e (headSpec (wsT yX3_bitAt cX3_bitAt 4 (some .int)) ({ frames := 1, cells := 0, slots := 0, locals := 21 })).room s m ([.int n, .int (nI kq)] : List Value).toArray below meth c s.heap [] 0 0 Q9 (F0 m 4 ls []) := by
    intro n9_1
    induction n9_1 with
    | zero => intro i u ls hi hu huk hn9_1; exact absurd hn9_1 (Nat.not_lt_zero _)
    | succ n9_1 ih_1 =>
      intro i u ls hi hu huk hn9_1 hl
      refine lv_iload_n hx hb dX3_bitAt_4 rfl (lv_at hl 3 rfl) ?_
      refine lv_bipush (v := 30) hx hb dX3_bitAt_5 (by decide) ?_
      have hcl := cnt_le (x := n) 30
      refine lv_icmp_ge (tgt := 34) hx hb dX3_bitAt_7 (by decide) (fun c_7 => ?_) (fun c_7 => ?_)
      · have k_7 : 30 ≤ i := (nI_leI (a := 30) (b := i) (by omega) (by omega)).mp c_7
        refine lv_iconst (v := 0) hx hb dX3_bitAt_34 (by decide) ?_
        refine W_q9 hQ9 ?_
        exact W.iret (v := 0) hx hb hr (fun _ hT9 _ => ⟨_, rfl, (absurd hkq (by rw [hu, show i = 30 by omega] at huk; omega)), hT9⟩) (fun _ h => absurd h List.not_mem_nil) dX3_bitAt_35
      · have k_7 : ¬ 30 ≤ i := fun z9 => c_7 ((nI_leI (a := 30) (b := i) (by omega) (by omega)).mpr z9)
        have hi9 : i < 30 := by omega
        refine lv_iload_n hx hb dX3_bitAt_10 rfl (lv_at hl 0 rfl) ?_
        refine lv_iload_n hx hb dX3_bitAt_11 rfl (lv_at hl 3 rfl) ?_
        refine rd_calli (va_runSN (As := [.int n, .int (nI i)]) (rest := []) ⟨hx, hb, hml, hown, hts⟩ (s_hasBit l G g hg f n (nI i)  ) (⟨my_cn hts ok_X10_hasBit.1 (hG.2.1 (.methodLinkNest RX3 44 yX10_hasBit RX10) (List.mem_of_getElem? (i := 33) rfl)) rfl rfl ⟨Nat.le_of_ble_eq_true rfl, Nat.le_of_ble_eq_true rfl⟩, hts _ ok_X10_hasBit.2.2.1, trivial⟩) ⟨bP.blind, fun U hU hW => ⟨rfl, by rw [hU]; exact hP, kG.warm hW hG⟩⟩ rfl rfl hl.1 rfl (lv_room (Nat.le_of_ble_eq_true rfl)) dX3_bitAt_12 ⟨Nat.le_of_ble_eq_true rfl, Nat.le_of_ble_eq_true rfl⟩) (fun r hr9 => ?_)
        subst hr9
        refine my_ifeq (tgt := 28) hx hb dX3_bitAt_15 (by decide) (fun c_15 => ?_) (fun c_15 => ?_)
        · refine lv_iinc (v := nI (i + 1)) (lv' := [(3, .int (nI (i + 1))), (0, .int n), (1, .int (nI kq)), (2, .int (nI u))]) hx hb dX3_bitAt_28 hl (k := 3) rfl (nI_add i 1) (by decide) rfl (fun ls hl => ?_)
          refine lv_goto (tgt := 4) hx hb dX3_bitAt_31 (by decide) ?_
          exact ih_1 (i + 1) u _ (by omega) (by rw [hu]; show _ = cnt n i + (if bt n i = true then 1 else 0); rw [if_neg (fun z => c_15 (by rw [hbt_bt (by omega)]; exact z))]; rfl) (huk) (by omega) (lv_sub hl [1, 2, 3, 0] rfl)
        · refine lv_iload_n hx hb dX3_bitAt_18 rfl (lv_at hl 2 rfl) ?_
          refine lv_iload_n hx hb dX3_bitAt_19 rfl (lv_at hl 1 rfl) ?_
          refine lv_icmp_ne (tgt := 25) hx hb dX3_bitAt_20 (by decide) (fun c_20 => ?_) (fun c_20 => ?_)
          · have k_20 : ¬ u = kq := fun z9 => c_20 ((nI_eq (a := u) (b := kq) (by omega) (by omega)).mpr z9)
            refine lv_iinc (v := nI (u + 1)) (lv' := [(2, .int (nI (u + 1))), (0, .int n), (1, .int (nI kq)), (3, .int (nI i))]) hx hb dX3_bitAt_25 hl (k := 2) rfl (nI_add u 1) (by decide) rfl (fun ls hl => ?_)
            refine lv_iinc (v := nI (i + 1)) (lv' := [(3, .int (nI (i + 1))), (2, .int (nI (u + 1))), (0, .int n), (1, .int (nI kq))]) hx hb dX3_bitAt_28 hl (k := 3) rfl (nI_add i 1) (by decide) rfl (fun ls hl => ?_)
            refine lv_goto (tgt := 4) hx hb dX3_bitAt_31 (by decide) ?_
            exact ih_1 (i + 1) (u + 1) _ (by omega) (by rw [hu]; show _ = cnt n i + (if bt n i = true then 1 else 0); rw [if_pos (by rw [← hbt_bt (by omega)]; exact c_15)]) (by omega) (by omega) (lv_sub hl [2, 3, 1, 0] rfl)
          · have k_20 : u = kq := (nI_eq (a := u) (b := kq) (by omega) (by omega)).mp c_20
            refine lv_iload_n hx hb dX3_bitAt_23 rfl (lv_at hl 3 rfl) ?_
            refine W_q9 hQ9 ?_
            exact W.iret (v := nI i) hx hb hr (fun _ hT9 _ => ⟨_, rfl, (by rw [← k_20, hu, nthB_cnt (by omega) (by rw [← hbt_bt (by omega)]; exact c_15)]), hT9⟩) (fun _ h => absurd h List.not_mem_nil) dX3_bitAt_24
  exact key1 (30 + 1) 0 0 _ (Nat.zero_le _) (rfl) (Nat.zero_le _) (by omega) (lv_sub hl [2, 3, 1, 0] rfl)
theorem od_p {od : Nat → Int32} {P : Nat → Nat} {j : Nat} (h : ∀ i, i < j → od i = nI (P i)) : ∀ i, i < j + 1 → upd od j (nI (P j)) i = nI (P i) := by
  intro i hi
  by_cases e : i = j
  · rw [e, pk_us]
  · rw [pk_un e]; exact h i (by omega)
set_option maxHeartbeats 4000000 in
set_option maxRecDepth 100000 in
theorem h_drawE (l : Launch) (G : gW) (g : Nat → Nat) (hg : gOK g) (f : Nat → va_E) (k : Nat) (sl : Nat) (lo : Int32) (ib : Int32) (ca : Int32) (mi : Int32) (s0 : Int32) (s1 : Int32) (sw : Int32) (od : Nat → Int32) (n : Int32) (r : Int32) (qm : Nat) (hhe : f k = eO 3 [.ref (g (k + 1)), .int (nI sl), .int lo, .int ib, .int ca, .int mi, .int s0, .int s1, .int sw]) (hor : f (k + 1) = eI G 24 od) (hk3 : k + 1 < 36) (hsl : sl ≤ 24) (hqm : qm ≤ 24) (hb30 : ∀ j, 30 ≤ j → bt n j = false) : Met l yX3_draw (wsT yX3_draw cX3_draw 7 none) ({ frames := 2, cells := 0, slots := 0, locals := 44 }) (bP G g f [.ref (g k), .int n, .int r, .int (nI qm)]) (bQv G g (fun (f' : Nat → va_E) => ∃ od9 : Nat → Int32, f' k = eO 3 [.ref (g (k + 1)), .int (nI (min qm (cnt n 30))), .int (lotF r (min qm (cnt n 30))), .int n, .int (drC n r (min qm (cnt n 30))), .int mi, .int s0, .int s1, .int sw] ∧ f' (k + 1) = eI G 24 od9 ∧ (∀ i, i < min qm (cnt n 30) → od9 i = nI (drP n r i)) ∧ ∀ j, (j ≠ k ∧ j ≠ k + 1) → f' j = f j)) 0 0 (gA g) := by
  refine Met.ofW (cc := cX3_draw) (maxL := 7) (ret := none) (by decide) rfl ?_
  intro p e s m args below meth c s₁ B hml hv
  obtain ⟨rfl, hP, hG⟩ := hv
  have hx := B.exec
  have hb := B.bytes
  have hr := B.returns
  have hts := my_hts (atoms_spec (ws := wsT yX3_draw cX3_draw 7 none) B.pre)
  have hown : s.vm.findClass RX3 = some m.cls := findClass_of_methodNamed B.named
  have hlocks := B.notSynchronized
  have hS : va_S (gA g) s.heap s.heap [] := va_S.rf
  have hl := lv_entry ([.ref (g k), .int n, .int r, .int (nI qm)]) (n := 7) (Nat.le_of_ble_eq_true rfl)
  rw [lg_entry_eq]
  generalize (lg_sl ([.ref (g k), .int n, .int r, .int (nI qm)]) ++ List.replicate (7 - (lg_sl ([.ref (g k), .int n, .int r, .int (nI qm)])).length) Slot.unset).toArray = ls at hl ⊢
  have hl : lv_has ls 7 [(0, .ref (g k)), (1, .int n), (2, .int r), (3, .int (nI qm))] := hl
  refine W_q8 (fun Q9 hQ9 => ?_)
  refine lv_aload_n hx hb dX3_draw_0 rfl (lv_at hl 0 rfl) ?_
  refine lv_iload_n hx hb dX3_draw_1 rfl (lv_at hl 1 rfl) ?_
  refine va_put (D := G.1) (ci := 3) (v := .int n) (ty := .int) (C := RX3) (T := TX3) (N := 9) hx hb hts inlX3 tyX3 tyX3_ok nmX3 hown hG.1 hP (wl_D hg f) hS k (wl_at (by omega) hhe) rfl 3 (by decide) (hts (.fieldLink RX3 15 "SwornLists$Hearing" "inBox" "I") w_477) (fun _ h9 => h9) rfl (by decide +kernel) rfl rfl (Nat.le_of_ble_eq_true rfl) dX3_draw_2 (fun H locs hP _ hS => ?_)
  obtain ⟨f_1, hP, e_1, o_1⟩ := b_put (by omega) hP
  have hhe : f_1 k = eO 3 [.ref (g (k + 1)), .int (nI sl), .int lo, .int n, .int ca, .int mi, .int s0, .int s1, .int sw] := e_1
  refine lv_aload_n hx hb dX3_draw_5 rfl (lv_at hl 0 rfl) ?_
  refine lv_iload_n hx hb dX3_draw_6 rfl (lv_at hl 2 rfl) ?_
  refine va_put (D := G.1) (ci := 3) (v := .int r) (ty := .int) (C := RX3) (T := TX3) (N := 9) hx hb hts inlX3 tyX3 tyX3_ok nmX3 hown hG.1 hP (wl_D hg f_1) hS k (wl_at (by omega) hhe) rfl 2 (by decide) (hts (.fieldLink RX3 19 "SwornLists$Hearing" "lot" "I") w_478) (fun _ h9 => h9) rfl (by decide +kernel) rfl rfl (Nat.le_of_ble_eq_true rfl) dX3_draw_7 (fun H locs hP _ hS => ?_)
  obtain ⟨f_2, hP, e_2, o_2⟩ := b_put (by omega) hP
  have hhe : f_2 k = eO 3 [.ref (g (k + 1)), .int (nI sl), .int r, .int n, .int ca, .int mi, .int s0, .int s1, .int sw] := e_2
  refine lv_aload_n hx hb dX3_draw_10 rfl (lv_at hl 0 rfl) ?_
  refine lv_iconst (v := 0) hx hb dX3_draw_11 (by decide) ?_
  refine va_put (D := G.1) (ci := 3) (v := .int 0) (ty := .int) (C := RX3) (T := TX3) (N := 9) hx hb hts inlX3 tyX3 tyX3_ok nmX3 hown hG.1 hP (wl_D hg f_2) hS k (wl_at (by omega) hhe) rfl 1 (by decide) (hts (.fieldLink RX3 22 "SwornLists$Hearing" "slips" "I") w_479) (fun _ h9 => h9) rfl (by decide +kernel) rfl rfl (Nat.le_of_ble_eq_true rfl) dX3_draw_12 (fun H locs hP _ hS => ?_)
  obtain ⟨f_3, hP, e_3, o_3⟩ := b_put (by omega) hP
  have hhe : f_3 k = eO 3 [.ref (g (k + 1)), .int 0, .int r, .int n, .int ca, .int mi, .int s0, .int s1, .int sw] := e_3
  refine lv_aload_n hx hb dX3_draw_15 rfl (lv_at hl 0 rfl) ?_
  refine lv_iconst (v := 0) hx hb dX3_draw_16 (by decide) ?_
  refine va_put (D := G.1) (ci := 3) (v := .int 0) (ty := .int) (C := RX3) (T := TX3) (N := 9) hx hb hts inlX3 tyX3 tyX3_ok nmX3 hown hG.1 hP (wl_D hg f_3) hS k (wl_at (by omega) hhe) rfl 4 (by decide) (hts (.fieldLink RX3 25 "SwornLists$Hearing" "called" "I") w_480) (fun _ h9 => h9) rfl (by decide +kernel) rfl rfl (Nat.le_of_ble_eq_true rfl) dX3_draw_17 (fun H locs hP _ hS => ?_)
  obtain ⟨f_4, hP, e_4, o_4⟩ := b_put (by omega) hP
  have hhe : f_4 k = eO 3 [.ref (g (k + 1)), .int 0, .int r, .int n, .int 0, .int mi, .int s0, .int s1, .int sw] := e_4
  refine lv_iload_n hx hb dX3_draw_20 rfl (lv_at hl 1 rfl) ?_
  refine rd_calli (va_runS (As := [.int n]) (rest := []) ⟨hx, hb, hml, hown, hts⟩ (s_bitCountE l G g hg f_4 n  ) (my_cwS hts ok_J6_bitCount_0f7a4 w_483 rfl rfl ⟨Nat.le_of_ble_eq_true rfl, Nat.le_of_ble_eq_true rfl⟩) ⟨bP.blind, fun U hU hW => ⟨rfl, by rw [hU]; exact hP, kG.warm hW hG⟩⟩ rfl rfl hl.1 rfl (lv_room (Nat.le_of_ble_eq_true rfl)) dX3_draw_21 ⟨Nat.le_of_ble_eq_true rfl, Nat.le_of_ble_eq_true rfl⟩) (fun r hr9 => ?_)
  subst hr9
  refine my_bei (v := nI (cnt n 30)) (congrArg nI (cnt_3032 hb30)) ?_
  refine lv_istore (lv' := [(4, .int (nI (cnt n 30))), (0, .ref (g k)), (1, .int n), (2, .int r), (3, .int (nI qm))]) hx hb dX3_draw_24 hl (by decide) rfl (fun ls hl => ?_)
  have hcl := cnt_le (x := n) 30
  refine lv_iload_n hx hb dX3_draw_26 rfl (lv_at hl 4 rfl) ?_
  refine lv_bipush (v := 24) hx hb dX3_draw_27 (by decide) ?_
  refine va_mmin hx hb (by rw [hml]; exact hl.1.symm) hown (hts (.methodLink RX3 34 Lib.Math.min.name) w_481) (hts (.static Lib.Math.min.name) w_152) (hts (.initialized "java/lang/Math") w_153) (hts (.code Lib.Math.min.name Lib.Math.min.code 2 (some .int)) w_154) (Nat.le_of_ble_eq_true rfl) (Nat.le_of_ble_eq_true rfl) (Nat.le_of_ble_eq_true rfl) (Nat.le_of_ble_eq_true rfl) dX3_draw_29 ?_
  refine my_bei (v := nI qm) ((min_2 (a := qm) (b := 24) (by omega) (by decide)).trans (congrArg nI (show min qm 24 = qm by omega))) ?_
  refine lv_iload hx hb dX3_draw_32 (lv_at hl 0 rfl) ?_
  refine va_mmin hx hb (by rw [hml]; exact hl.1.symm) hown (hts (.methodLink RX3 34 Lib.Math.min.name) w_481) (hts (.static Lib.Math.min.name) w_152) (hts (.initialized "java/lang/Math") w_153) (hts (.code Lib.Math.min.name Lib.Math.min.code 2 (some .int)) w_154) (Nat.le_of_ble_eq_true rfl) (Nat.le_of_ble_eq_true rfl) (Nat.le_of_ble_eq_true rfl) (Nat.le_of_ble_eq_true rfl) dX3_draw_34 ?_
  refine my_bei (v := nI (min qm (cnt n 30))) (min_2 (by omega) (by omega)) ?_
  refine lv_istore (lv' := [(5, .int (nI (min qm (cnt n 30)))), (4, .int (nI (cnt n 30))), (0, .ref (g k)), (1, .int n), (2, .int r), (3, .int (nI qm))]) hx hb dX3_draw_37 hl (by decide) rfl (fun ls hl => ?_)
  replace hor : f_4 (k + 1) = eI G 24 od := ((o_4 (k + 1) (by omega)).trans ((o_3 (k + 1) (by omega)).trans ((o_2 (k + 1) (by omega)).trans ((o_1 (k + 1) (by omega)))))).trans hor
  have key1 : ∀ (n9_1 : Nat) (j1 : Nat) (od1 : Nat → Int32) (f_5 : Nat → va_E) (H : Heap) (locs : List Loc) (ls : Array Slot), (j1 ≤ min qm (cnt n 30)) → (∀ i, i < j1 → od1 i = nI (drP n r i)) → 24 - j1 < n9_1 → f_5 k = eO 3 [.ref (g (k + 1)), .int (nI j1), .int (lotF r j1), .int n, .int (drC n r j1), .int mi, .int s0, .int s1, .int sw] → f_5 (k + 1) = eI G 24 od1 → (∀ j, (j ≠ k ∧ j ≠ k + 1) → f_5 j = f_4 j) → va_P G.1 vwCl (wl g f_5) H → va_S (gA g) s.heap H locs → lv_has ls 7 [(0, .ref (g k)), (4, .int (nI (cnt n 30 - j1))), (5, .int (nI (min qm (cnt n 30))))] → W p l e (headSpec (wsT yX3_draw cX3_draw 7 none) ({ frames := 2, cells := 0, slots := 0, locals := 44 })).room s m ([.ref (g k), .int n, .int r, .int (nI qm)] : List Value).toArray below meth c H locs 0 0 Q9 (F0 m 39 ls []) := by
    intro n9_1
    induction n9_1 with
    | zero => intro j1 od1 f_5 H locs ls hj1 ho1 hn9_1; exact absurd hn9_1 (Nat.not_lt_zero _)
    | succ n9_1 ih_1 =>
      intro j1 od1 f_5 H locs ls hj1 ho1 hn9_1 hhe hor o_5 hP hS hl
      refine lv_aload_n hx hb dX3_draw_39 rfl (lv_at hl 0 rfl) ?_
      refine va_get (D := G.1) (ci := 3) (v := .int (nI j1)) (C := RX3) (T := TX3) (N := 9) hx hb hts inlX3 hown hG.1 hP k (wl_at (by omega) hhe) rfl 1 (by decide) (hts (.fieldLink RX3 22 "SwornLists$Hearing" "slips" "I") w_479) (fun _ h9 => h9) rfl dX3_draw_40 ?_
      refine lv_iload hx hb dX3_draw_43 (lv_at hl 2 rfl) ?_
      refine lv_icmp_ge (tgt := 134) hx hb dX3_draw_45 (by decide) (fun c_45 => ?_) (fun c_45 => ?_)
      · have k_45 : min qm (cnt n 30) ≤ j1 := (nI_leI (a := min qm (cnt n 30)) (b := j1) (by omega) (by omega)).mp c_45
        refine W_q9 hQ9 ?_
        exact W.vret hx hb hr (fun _ hT9 _ => ⟨⟨f_5, rfl, (⟨od1, by rw [← show j1 = min qm (cnt n 30) by omega]; exact hhe, hor, by rw [← show j1 = min qm (cnt n 30) by omega]; exact ho1, fun j hj => (((((o_5 j (by omega))).trans (o_4 j (by omega))).trans (o_3 j (by omega))).trans (o_2 j (by omega))).trans (o_1 j (by omega))⟩), by rw [hT9]; exact hP⟩, hS.F hT9⟩) hS.2.2 dX3_draw_134
      · have k_45 : ¬ min qm (cnt n 30) ≤ j1 := fun z9 => c_45 ((nI_leI (a := min qm (cnt n 30)) (b := j1) (by omega) (by omega)).mpr z9)
        refine lv_iload hx hb dX3_draw_48 (lv_at hl 1 rfl) ?_
        refine lv_if_le (tgt := 134) hx hb dX3_draw_50 (by decide) (fun c_50 => ?_) (fun c_50 => ?_)
        · have k_50 : cnt n 30 - j1 ≤ 0 := (nI_leI (a := cnt n 30 - j1) (b := 0) (by omega) (by omega)).mp c_50
          refine W_q9 hQ9 ?_
          exact W.vret hx hb hr (fun _ hT9 _ => ⟨⟨f_5, rfl, (⟨od1, by rw [← show j1 = min qm (cnt n 30) by omega]; exact hhe, hor, by rw [← show j1 = min qm (cnt n 30) by omega]; exact ho1, fun j hj => (((((o_5 j (by omega))).trans (o_4 j (by omega))).trans (o_3 j (by omega))).trans (o_2 j (by omega))).trans (o_1 j (by omega))⟩), by rw [hT9]; exact hP⟩, hS.F hT9⟩) hS.2.2 dX3_draw_134
        · have k_50 : ¬ cnt n 30 - j1 ≤ 0 := fun z9 => c_50 ((nI_leI (a := cnt n 30 - j1) (b := 0) (by omega) (by omega)).mpr z9)
          have hcB := dr_cnt (box := n) (o0 := r) j1 (by omega)
          have hdi := dr_in (box := n) (o0 := r) (j := j1) (by omega)
          refine lv_aload_n hx hb dX3_draw_53 rfl (lv_at hl 0 rfl) ?_
          refine lv_aload_n hx hb dX3_draw_54 rfl (lv_at hl 0 rfl) ?_
          refine va_get (D := G.1) (ci := 3) (v := .int (lotF r j1)) (C := RX3) (T := TX3) (N := 9) hx hb hts inlX3 hown hG.1 hP k (wl_at (by omega) hhe) rfl 2 (by decide) (hts (.fieldLink RX3 19 "SwornLists$Hearing" "lot" "I") w_478) (fun _ h9 => h9) rfl dX3_draw_55 ?_
          refine lv_ldc (v := 1103515245) hx hb hown (hts (.constant RX3 40 (1103515245)) w_482) dX3_draw_58 ?_
          refine lv_imul hx hb dX3_draw_60 ?_
          refine lv_sipush (v := 12345) hx hb dX3_draw_61 (by decide) ?_
          refine lv_iadd hx hb dX3_draw_64 ?_
          refine my_bei (v := lotF r (j1 + 1)) (rfl) ?_
          refine va_put (D := G.1) (ci := 3) (v := .int (lotF r (j1 + 1))) (ty := .int) (C := RX3) (T := TX3) (N := 9) hx hb hts inlX3 tyX3 tyX3_ok nmX3 hown hG.1 hP (wl_D hg f_5) hS k (wl_at (by omega) hhe) rfl 2 (by decide) (hts (.fieldLink RX3 19 "SwornLists$Hearing" "lot" "I") w_478) (fun _ h9 => h9) rfl (by decide +kernel) rfl rfl (Nat.le_of_ble_eq_true rfl) dX3_draw_65 (fun H locs hP _ hS => ?_)
          obtain ⟨f_6, hP, e_6, o_6⟩ := b_put (by omega) hP
          have hhe : f_6 k = eO 3 [.ref (g (k + 1)), .int (nI j1), .int (lotF r (j1 + 1)), .int n, .int (drC n r j1), .int mi, .int s0, .int s1, .int sw] := e_6
          refine lv_aload_n hx hb dX3_draw_68 rfl (lv_at hl 0 rfl) ?_
          refine va_get (D := G.1) (ci := 3) (v := .int n) (C := RX3) (T := TX3) (N := 9) hx hb hts inlX3 hown hG.1 hP k (wl_at (by omega) hhe) rfl 3 (by decide) (hts (.fieldLink RX3 15 "SwornLists$Hearing" "inBox" "I") w_477) (fun _ h9 => h9) rfl dX3_draw_69 ?_
          refine lv_aload_n hx hb dX3_draw_72 rfl (lv_at hl 0 rfl) ?_
          refine va_get (D := G.1) (ci := 3) (v := .int (drC n r j1)) (C := RX3) (T := TX3) (N := 9) hx hb hts inlX3 hown hG.1 hP k (wl_at (by omega) hhe) rfl 4 (by decide) (hts (.fieldLink RX3 25 "SwornLists$Hearing" "called" "I") w_480) (fun _ h9 => h9) rfl dX3_draw_73 ?_
          refine lv_iconst (v := (-1)) hx hb dX3_draw_76 (by decide) ?_
          refine lv_ixor hx hb dX3_draw_77 ?_
          refine lv_iand hx hb dX3_draw_78 ?_
          refine my_bei (v := drB n r j1) (rfl) ?_
          refine lv_aload_n hx hb dX3_draw_79 rfl (lv_at hl 0 rfl) ?_
          refine va_get (D := G.1) (ci := 3) (v := .int (lotF r (j1 + 1))) (C := RX3) (T := TX3) (N := 9) hx hb hts inlX3 hown hG.1 hP k (wl_at (by omega) hhe) rfl 2 (by decide) (hts (.fieldLink RX3 19 "SwornLists$Hearing" "lot" "I") w_478) (fun _ h9 => h9) rfl dX3_draw_80 ?_
          refine lv_bipush (v := 16) hx hb dX3_draw_83 (by decide) ?_
          refine lv_iushr hx hb dX3_draw_85 rfl ?_
          refine my_bei (v := nI ((lotF r (j1 + 1)).toBitVec.toNat / 65536)) (ush_n) ?_
          refine lv_iload hx hb dX3_draw_86 (lv_at hl 1 rfl) ?_
          refine lv_irem hx hb dX3_draw_88 (nI_ne0 (by omega) (by omega)) ?_
          refine my_bei (v := nI (lix (lotF r (j1 + 1)) (cnt n 30 - j1))) (pk_rem (by have := (lotF r (j1 + 1)).toBitVec.isLt; omega) (by omega) (by omega)) ?_
          refine rd_calli (va_runS (As := [.int (drB n r j1), .int (nI (lix (lotF r (j1 + 1)) (cnt n 30 - j1)))]) (rest := []) ⟨hx, hb, hml, hown, hts⟩ (h_bitAtE l G g hg f_6 (drB n r j1) (lix (lotF r (j1 + 1)) (cnt n 30 - j1))  (by rw [show cnt (drB n r j1) 30 = cnt n 30 - j1 by omega]; exact Nat.mod_lt _ (by omega))) (my_cwS hts ok_X3_bitAt w_490 rfl rfl ⟨Nat.le_of_ble_eq_true rfl, Nat.le_of_ble_eq_true rfl⟩) ⟨bP.blind, fun U hU hW => ⟨rfl, by rw [hU]; exact hP, kG.warm hW hG⟩⟩ rfl rfl hl.1 rfl (lv_room (Nat.le_of_ble_eq_true rfl)) dX3_draw_89 ⟨Nat.le_of_ble_eq_true rfl, Nat.le_of_ble_eq_true rfl⟩) (fun r hr9 => ?_)
          subst hr9
          refine my_bei (v := nI (drP n r j1)) (by unfold drP; rw [show cnt (drB n r j1) 30 = cnt n 30 - j1 by omega]) ?_
          refine lv_istore (lv' := [(6, .int (nI (drP n r j1))), (0, .ref (g k)), (4, .int (nI (cnt n 30 - j1))), (5, .int (nI (min qm (cnt n 30))))]) hx hb dX3_draw_92 hl (by decide) rfl (fun ls hl => ?_)
          refine lv_aload_n hx hb dX3_draw_94 rfl (lv_at hl 1 rfl) ?_
          refine va_get (D := G.1) (ci := 3) (v := .ref (g (k + 1))) (C := RX3) (T := TX3) (N := 9) hx hb hts inlX3 hown hG.1 hP k (wl_at (by omega) hhe) rfl 0 (by decide) (hts (.fieldLink RX3 9 "SwornLists$Hearing" "order" "[I") w_91) (fun _ h9 => h9) rfl dX3_draw_95 ?_
          refine lv_aload_n hx hb dX3_draw_98 rfl (lv_at hl 1 rfl) ?_
          refine va_get (D := G.1) (ci := 3) (v := .int (nI j1)) (C := RX3) (T := TX3) (N := 9) hx hb hts inlX3 hown hG.1 hP k (wl_at (by omega) hhe) rfl 1 (by decide) (hts (.fieldLink RX3 22 "SwornLists$Hearing" "slips" "I") w_479) (fun _ h9 => h9) rfl dX3_draw_99 ?_
          refine lv_iload hx hb dX3_draw_102 (lv_at hl 0 rfl) ?_
          replace hor : f_6 (k + 1) = eI G 24 od1 := ((o_6 (k + 1) (by omega))).trans hor
          refine va_iast hx hb hG.1 hP (wl_D hg f_6) hS (k + 1) 0 (wl_at (by omega) hor) rfl (vp_in_nI (by omega) (by decide)) dX3_draw_104 (fun H locs hP _ hS => ?_)
          have hP := (congrArg (fun z9 => va_P G.1 vwCl ((wl g f_6).set (k + 1) (g (k + 1), eI G 24 ((upd od1 z9 (nI (drP n r j1)))))) H) (show Int32.toNatClampNeg (nI j1) = j1 from nI_clamp (by omega))).mp hP
          obtain ⟨f_7, hP, e_7, o_7⟩ := b_put (by omega) hP
          have hor : f_7 (k + 1) = eI G 24 (upd od1 j1 (nI (drP n r j1))) := e_7
          refine lv_aload_n hx hb dX3_draw_105 rfl (lv_at hl 1 rfl) ?_
          refine lv_dup hx hb dX3_draw_106 rfl ?_
          replace hhe : f_7 k = eO 3 [.ref (g (k + 1)), .int (nI j1), .int (lotF r (j1 + 1)), .int n, .int (drC n r j1), .int mi, .int s0, .int s1, .int sw] := ((o_7 k (by omega))).trans hhe
          refine va_get (D := G.1) (ci := 3) (v := .int (nI j1)) (C := RX3) (T := TX3) (N := 9) hx hb hts inlX3 hown hG.1 hP k (wl_at (by omega) hhe) rfl 1 (by decide) (hts (.fieldLink RX3 22 "SwornLists$Hearing" "slips" "I") w_479) (fun _ h9 => h9) rfl dX3_draw_107 ?_
          refine lv_iconst (v := 1) hx hb dX3_draw_110 (by decide) ?_
          refine lv_iadd hx hb dX3_draw_111 ?_
          refine my_bei (v := nI (j1 + 1)) (nI_add j1 1) ?_
          refine va_put (D := G.1) (ci := 3) (v := .int (nI (j1 + 1))) (ty := .int) (C := RX3) (T := TX3) (N := 9) hx hb hts inlX3 tyX3 tyX3_ok nmX3 hown hG.1 hP (wl_D hg f_7) hS k (wl_at (by omega) hhe) rfl 1 (by decide) (hts (.fieldLink RX3 22 "SwornLists$Hearing" "slips" "I") w_479) (fun _ h9 => h9) rfl (by decide +kernel) rfl rfl (Nat.le_of_ble_eq_true rfl) dX3_draw_112 (fun H locs hP _ hS => ?_)
          obtain ⟨f_8, hP, e_8, o_8⟩ := b_put (by omega) hP
          have hhe : f_8 k = eO 3 [.ref (g (k + 1)), .int (nI (j1 + 1)), .int (lotF r (j1 + 1)), .int n, .int (drC n r j1), .int mi, .int s0, .int s1, .int sw] := e_8
          refine lv_iinc (v := nI (cnt n 30 - (j1 + 1))) (lv' := [(4, .int (nI (cnt n 30 - (j1 + 1)))), (6, .int (nI (drP n r j1))), (0, .ref (g k)), (5, .int (nI (min qm (cnt n 30))))]) hx hb dX3_draw_115 hl (k := 2) rfl ((sb_m1 (by omega)).trans (congrArg nI (show cnt n 30 - j1 - 1 = cnt n 30 - (j1 + 1) by omega))) (by decide) rfl (fun ls hl => ?_)
          refine lv_aload_n hx hb dX3_draw_118 rfl (lv_at hl 2 rfl) ?_
          refine lv_dup hx hb dX3_draw_119 rfl ?_
          refine va_get (D := G.1) (ci := 3) (v := .int (drC n r j1)) (C := RX3) (T := TX3) (N := 9) hx hb hts inlX3 hown hG.1 hP k (wl_at (by omega) hhe) rfl 4 (by decide) (hts (.fieldLink RX3 25 "SwornLists$Hearing" "called" "I") w_480) (fun _ h9 => h9) rfl dX3_draw_120 ?_
          refine lv_iconst (v := 1) hx hb dX3_draw_123 (by decide) ?_
          refine lv_iload hx hb dX3_draw_124 (lv_at hl 1 rfl) ?_
          refine lv_ishl hx hb dX3_draw_126 ?_
          refine lv_ior hx hb dX3_draw_127 ?_
          refine my_bei (v := drC n r (j1 + 1)) (rfl) ?_
          refine va_put (D := G.1) (ci := 3) (v := .int (drC n r (j1 + 1))) (ty := .int) (C := RX3) (T := TX3) (N := 9) hx hb hts inlX3 tyX3 tyX3_ok nmX3 hown hG.1 hP (wl_D hg f_8) hS k (wl_at (by omega) hhe) rfl 4 (by decide) (hts (.fieldLink RX3 25 "SwornLists$Hearing" "called" "I") w_480) (fun _ h9 => h9) rfl (by decide +kernel) rfl rfl (Nat.le_of_ble_eq_true rfl) dX3_draw_128 (fun H locs hP _ hS => ?_)
          obtain ⟨f_9, hP, e_9, o_9⟩ := b_put (by omega) hP
          have hhe : f_9 k = eO 3 [.ref (g (k + 1)), .int (nI (j1 + 1)), .int (lotF r (j1 + 1)), .int n, .int (drC n r (j1 + 1)), .int mi, .int s0, .int s1, .int sw] := e_9
          refine lv_goto (tgt := 39) hx hb dX3_draw_131 (by decide) ?_
          replace hor : f_9 (k + 1) = eI G 24 (upd od1 j1 (nI (drP n r j1))) := ((o_9 (k + 1) (by omega)).trans ((o_8 (k + 1) (by omega)))).trans hor
          exact ih_1 (j1 + 1) (upd od1 j1 (nI (drP n r j1))) f_9 _ _ _ (by omega) (od_p ho1) (by omega) (hhe) (hor) (fun j hj => (((((o_9 j (by omega))).trans (o_8 j (by omega))).trans (o_7 j (by omega))).trans (o_6 j (by omega))).trans (o_5 j (by omega))) hP hS (lv_sub hl [2, 0, 3] rfl)
  exact key1 (24 + 1) 0 od f_4 _ _ _ (Nat.zero_le _) (fun i hi => absurd hi (Nat.not_lt_zero _)) (by omega) (hhe) (hor) (fun j _ => rfl) hP hS (lv_sub hl [2, 1, 0] rfl)
set_option maxHeartbeats 4000000 in
set_option maxRecDepth 100000 in
theorem h_leftE (l : Launch) (G : gW) (g : Nat → Nat) (hg : gOK g) (f : Nat → va_E) (k : Nat) (sl : Nat) (lo : Int32) (ib : Int32) (ca : Int32) (mi : Int32) (s0 : Int32) (s1 : Int32) (sw : Int32) (hhe : f k = eO 3 [.ref (g (k + 1)), .int (nI sl), .int lo, .int ib, .int ca, .int mi, .int s0, .int s1, .int sw]) (hk3 : k + 1 < 36) (hsl : sl ≤ 24) : Met l yX3_left (wsT yX3_left cX3_left 1 (some .int)) ({ frames := 0, cells := 0, slots := 0, locals := 0 }) (bP G g f [.ref (g k)]) (rQi (fun z9 => z9 = lfV ca mi (s0, s1))) 0 0 fr0 := by
  refine Met.ofW (cc := cX3_left) (maxL := 1) (ret := (some .int)) (by decide) rfl ?_
  intro p e s m args below meth c s₁ B hml hv
  obtain ⟨rfl, hP, hG⟩ := hv
  have hx := B.exec
  have hb := B.bytes
  have hr := B.returns
  have hts := my_hts (atoms_spec (ws := wsT yX3_left cX3_left 1 (some .int)) B.pre)
  have hown : s.vm.findClass RX3 = some m.cls := findClass_of_methodNamed B.named
  have hlocks := B.notSynchronized
  have hl := lv_entry ([.ref (g k)]) (n := 1) (Nat.le_of_ble_eq_true rfl)
  rw [lg_entry_eq]
  generalize (lg_sl ([.ref (g k)]) ++ List.replicate (1 - (lg_sl ([.ref (g k)])).length) Slot.unset).toArray = ls at hl ⊢
  have hl : lv_has ls 1 [(0, .ref (g k))] := hl
  refine W_q8 (fun Q9 hQ9 => ?_)
  refine lv_aload_n hx hb dX3_left_0 rfl (lv_at hl 0 rfl) ?_
  refine va_get (D := G.1) (ci := 3) (v := .int ca) (C := RX3) (T := TX3) (N := 9) hx hb hts inlX3 hown hG.1 hP k (wl_at (by omega) hhe) rfl 4 (by decide) (hts (.fieldLink RX3 25 "SwornLists$Hearing" "called" "I") w_480) (fun _ h9 => h9) rfl dX3_left_1 ?_
  refine lv_aload_n hx hb dX3_left_4 rfl (lv_at hl 0 rfl) ?_
  refine va_get (D := G.1) (ci := 3) (v := .int mi) (C := RX3) (T := TX3) (N := 9) hx hb hts inlX3 hown hG.1 hP k (wl_at (by omega) hhe) rfl 5 (by decide) (hts (.fieldLink RX3 53 "SwornLists$Hearing" "missing" "I") w_497) (fun _ h9 => h9) rfl dX3_left_5 ?_
  refine lv_iconst (v := (-1)) hx hb dX3_left_8 (by decide) ?_
  refine lv_ixor hx hb dX3_left_9 ?_
  refine lv_iand hx hb dX3_left_10 ?_
  refine lv_aload_n hx hb dX3_left_11 rfl (lv_at hl 0 rfl) ?_
  refine va_get (D := G.1) (ci := 3) (v := .int s0) (C := RX3) (T := TX3) (N := 9) hx hb hts inlX3 hown hG.1 hP k (wl_at (by omega) hhe) rfl 6 (by decide) (hts (.fieldLink RX3 56 "SwornLists$Hearing" "struckBy0" "I") w_498) (fun _ h9 => h9) rfl dX3_left_12 ?_
  refine lv_iconst (v := (-1)) hx hb dX3_left_15 (by decide) ?_
  refine lv_ixor hx hb dX3_left_16 ?_
  refine lv_iand hx hb dX3_left_17 ?_
  refine lv_aload_n hx hb dX3_left_18 rfl (lv_at hl 0 rfl) ?_
  refine va_get (D := G.1) (ci := 3) (v := .int s1) (C := RX3) (T := TX3) (N := 9) hx hb hts inlX3 hown hG.1 hP k (wl_at (by omega) hhe) rfl 7 (by decide) (hts (.fieldLink RX3 59 "SwornLists$Hearing" "struckBy1" "I") w_499) (fun _ h9 => h9) rfl dX3_left_19 ?_
  refine lv_iconst (v := (-1)) hx hb dX3_left_22 (by decide) ?_
  refine lv_ixor hx hb dX3_left_23 ?_
  refine lv_iand hx hb dX3_left_24 ?_
  refine W_q9 hQ9 ?_
  exact W.iret (v := ((ca &&& (mi ^^^ (-1))) &&& (s0 ^^^ (-1))) &&& (s1 ^^^ (-1))) hx hb hr (fun _ hT9 _ => ⟨_, rfl, (rfl), hT9⟩) (fun _ h => absurd h List.not_mem_nil) dX3_left_25
set_option maxHeartbeats 4000000 in
set_option maxRecDepth 100000 in
theorem h_leastLikedE (l : Launch) (G : gW) (g : Nat → Nat) (hg : gOK g) (f : Nat → va_E) (k : Nat) (sl : Nat) (lo : Int32) (ib : Int32) (ca : Int32) (mi : Int32) (s0 : Int32) (s1 : Int32) (sw : Int32) (od : Nat → Int32) (nt : Nat) (ct : Nat → Int32) (opn : Nat → Nat) (t : Nat) (sd : Nat) (hhe : f k = eO 3 [.ref (g (k + 1)), .int (nI sl), .int lo, .int ib, .int ca, .int mi, .int s0, .int s1, .int sw]) (hor : f (k + 1) = eI G 24 od) (htr : f 45 = eO 5 [.int (nI 10), .int (nI 70), .ref (g 46), .int (nI nt)]) (hct : f 46 = eI G (10 * 70) ct) (hk3 : k + 1 < 36) (hsl : sl ≤ 24) (hnt : nt ≤ 10) (hod : ∀ i, i < sl → od i = nI (opn i) ∧ opn i < 30) (ht : t < nt) (hsd : sd < 2) : Met l yX3_leastLiked (wsT yX3_leastLiked cX3_leastLiked 9 (some .int)) ({ frames := 1, cells := 0, slots := 0, locals := 23 }) (bP G g f [.ref (g k), .ref (g 45), .int (nI t), .int (nI sd)]) (rQi (fun z9 => z9 = bo (lkP opn (fun p => ct (70 * t + (30 * sd + p + 10))) (lfV ca mi (s0, s1)) sl))) 0 0 fr0 := by
  refine Met.ofW (cc := cX3_leastLiked) (maxL := 9) (ret := (some .int)) (by decide) rfl ?_
  intro p e s m args below meth c s₁ B hml hv
  obtain ⟨rfl, hP, hG⟩ := hv
  have hx := B.exec
  have hb := B.bytes
  have hr := B.returns
  have hts := my_hts (atoms_spec (ws := wsT yX3_leastLiked cX3_leastLiked 9 (some .int)) B.pre)
  have hown : s.vm.findClass RX3 = some m.cls := findClass_of_methodNamed B.named
  have hlocks := B.notSynchronized
  have hl := lv_entry ([.ref (g k), .ref (g 45), .int (nI t), .int (nI sd)]) (n := 9) (Nat.le_of_ble_eq_true rfl)
  rw [lg_entry_eq]
  generalize (lg_sl ([.ref (g k), .ref (g 45), .int (nI t), .int (nI sd)]) ++ List.replicate (9 - (lg_sl ([.ref (g k), .ref (g 45), .int (nI t), .int (nI sd)])).length) Slot.unset).toArray = ls at hl ⊢
  have hl : lv_has ls 9 [(0, .ref (g k)), (1, .ref (g 45)), (2, .int (nI t)), (3, .int (nI sd))] := hl
  refine W_q8 (fun Q9 hQ9 => ?_)
  refine lv_iconst (v := (-1)) hx hb dX3_leastLiked_0 (by decide) ?_
  refine lv_istore (lv' := [(4, .int (-1)), (0, .ref (g k)), (1, .ref (g 45)), (2, .int (nI t)), (3, .int (nI sd))]) hx hb dX3_leastLiked_1 hl (by decide) rfl (fun ls hl => ?_)
  refine lv_iconst (v := 0) hx hb dX3_leastLiked_3 (by decide) ?_
  refine lv_istore (lv' := [(5, .int 0), (4, .int (-1)), (0, .ref (g k)), (1, .ref (g 45)), (2, .int (nI t)), (3, .int (nI sd))]) hx hb dX3_leastLiked_4 hl (by decide) rfl (fun ls hl => ?_)
  refine lv_iconst (v := 0) hx hb dX3_leastLiked_6 (by decide) ?_
  refine lv_istore (lv' := [(6, .int 0), (5, .int 0), (4, .int (-1)), (0, .ref (g k)), (1, .ref (g 45)), (2, .int (nI t)), (3, .int (nI sd))]) hx hb dX3_leastLiked_7 hl (by decide) rfl (fun ls hl => ?_)
  have key1 : ∀ (n9_1 : Nat) (i : Nat) (o1 : Option Nat) (ls : Array Slot), (i ≤ sl) → (lkP opn (fun p => ct (70 * t + (30 * sd + p + 10))) (lfV ca mi (s0, s1)) i = o1) → sl - i < n9_1 → lv_has ls 9 [(0, .ref (g k)), (1, .ref (g 45)), (2, .int (nI t)), (3, .int (nI sd)), (4, .int (lkL (fun p => ct (70 * t + (30 * sd + p + 10))) o1)), (5, .int (bo o1)), (6, .int (nI i))] → W p l e (headSpec (wsT yX3_leastLiked cX3_leastLiked 9 (some .int)) ({ frames := 1, cells := 0, slots := 0, locals := 23 })).room s m ([.ref (g k), .ref (g 45), .int (nI t), .int (nI sd)] : List Value).toArray below meth c s.heap [] 0 0 Q9 (F0 m 9 ls []) := by
    intro n9_1
    induction n9_1 with
    | zero => intro i o1 ls hi ho1 hn9_1; exact absurd hn9_1 (Nat.not_lt_zero _)
    | succ n9_1 ih_1 =>
      intro i o1 ls hi ho1 hn9_1 hl
      refine lv_iload hx hb dX3_leastLiked_9 (lv_at hl 6 rfl) ?_
      refine lv_aload_n hx hb dX3_leastLiked_11 rfl (lv_at hl 0 rfl) ?_
      refine va_get (D := G.1) (ci := 3) (v := .int (nI sl)) (C := RX3) (T := TX3) (N := 9) hx hb hts inlX3 hown hG.1 hP k (wl_at (by omega) hhe) rfl 1 (by decide) (hts (.fieldLink RX3 22 "SwornLists$Hearing" "slips" "I") w_479) (fun _ h9 => h9) rfl dX3_leastLiked_12 ?_
      refine lv_icmp_ge (tgt := 75) hx hb dX3_leastLiked_15 (by decide) (fun c_15 => ?_) (fun c_15 => ?_)
      · have k_15 : sl ≤ i := (nI_leI (a := sl) (b := i) (by omega) (by omega)).mp c_15
        refine lv_iload hx hb dX3_leastLiked_75 (lv_at hl 5 rfl) ?_
        refine W_q9 hQ9 ?_
        exact W.iret (v := bo o1) hx hb hr (fun _ hT9 _ => ⟨_, rfl, (by rw [← ho1, show i = sl by omega]), hT9⟩) (fun _ h => absurd h List.not_mem_nil) dX3_leastLiked_77
      · have k_15 : ¬ sl ≤ i := fun z9 => c_15 ((nI_leI (a := sl) (b := i) (by omega) (by omega)).mpr z9)
        have hi9 : i < sl := by omega
        have hoi := (hod i hi9).2
        refine lv_aload_n hx hb dX3_leastLiked_18 rfl (lv_at hl 0 rfl) ?_
        refine va_get (D := G.1) (ci := 3) (v := .ref (g (k + 1))) (C := RX3) (T := TX3) (N := 9) hx hb hts inlX3 hown hG.1 hP k (wl_at (by omega) hhe) rfl 0 (by decide) (hts (.fieldLink RX3 9 "SwornLists$Hearing" "order" "[I") w_91) (fun _ h9 => h9) rfl dX3_leastLiked_19 ?_
        refine lv_iload hx hb dX3_leastLiked_22 (lv_at hl 6 rfl) ?_
        refine va_iald hx hb hG.1 hP (k + 1) 0 (wl_at (by omega) hor) rfl (vp_in_nI (by omega) (by decide)) dX3_leastLiked_24 ?_
        refine my_bei (v := od i) (congrArg od (nI_clamp (n := i) (by omega))) ?_
        refine my_bei (v := nI (opn i)) ((hod i hi9).1) ?_
        refine lv_istore (lv' := [(7, .int (nI (opn i))), (0, .ref (g k)), (1, .ref (g 45)), (2, .int (nI t)), (3, .int (nI sd)), (4, .int (lkL (fun p => ct (70 * t + (30 * sd + p + 10))) o1)), (5, .int (bo o1)), (6, .int (nI i))]) hx hb dX3_leastLiked_25 hl (by decide) rfl (fun ls hl => ?_)
        refine lv_aload_n hx hb dX3_leastLiked_27 rfl (lv_at hl 2 rfl) ?_
        refine lv_iload_n hx hb dX3_leastLiked_28 rfl (lv_at hl 3 rfl) ?_
        refine lv_iload_n hx hb dX3_leastLiked_29 rfl (lv_at hl 4 rfl) ?_
        refine lv_iload hx hb dX3_leastLiked_30 (lv_at hl 0 rfl) ?_
        refine rd_calli (va_runSN (As := [.int (nI sd), .int (nI (opn i))]) (rest := [.int (nI t), .ref (g 45)]) ⟨hx, hb, hml, hown, hts⟩ (s_likesColumn l G g hg f (nI sd) (nI (opn i))  ) (⟨my_cn hts ok_X10_likesColumn.1 (hG.2.1 (.methodLinkNest RX3 66 yX10_likesColumn RX10) (List.mem_of_getElem? (i := 34) rfl)) rfl rfl ⟨Nat.le_of_ble_eq_true rfl, Nat.le_of_ble_eq_true rfl⟩, hts _ ok_X10_likesColumn.2.2.1, trivial⟩) ⟨bP.blind, fun U hU hW => ⟨rfl, by rw [hU]; exact hP, kG.warm hW hG⟩⟩ rfl rfl hl.1 rfl (lv_room (Nat.le_of_ble_eq_true rfl)) dX3_leastLiked_32 ⟨Nat.le_of_ble_eq_true rfl, Nat.le_of_ble_eq_true rfl⟩) (fun r hr9 => ?_)
        subst hr9
        refine my_bei (v := nI (30 * sd + opn i + 10)) (colQ) ?_
        refine rd_calli (va_runV (As := [.int (nI t), .int (nI (30 * sd + opn i + 10))]) (rest := []) ⟨hx, hb, hml, hown, hts⟩ (r_at l G g hg f 45 10 70 nt ct (nI t) (nI (30 * sd + opn i + 10)) htr hct (by first | assumption | omega | decide) (by first | assumption | omega | decide) (by first | assumption | omega | decide) (by first | assumption | omega | decide)) (my_cwV hts ok_X5_at w_500 rfl rfl ⟨Nat.le_of_ble_eq_true rfl, Nat.le_of_ble_eq_true rfl⟩) ⟨bP.blind, va_recv hG.1 hP (ci := 5) (q0 := 45) rfl (wl_at (by decide) htr), fun U hU hW => ⟨rfl, by rw [hU]; exact hP, kG.warm hW hG⟩⟩ rfl rfl hl.1 rfl (lv_room (Nat.le_of_ble_eq_true rfl)) dX3_leastLiked_35 ⟨Nat.le_of_ble_eq_true rfl, Nat.le_of_ble_eq_true rfl⟩) (fun r hr9 => ?_)
        subst hr9
        refine my_bei (v := ct (70 * t + (30 * sd + opn i + 10))) (atQ (d := ct) (w := 70) (i := t) (c := 30 * sd + opn i + 10) ht (by omega) (by omega) (by omega)) ?_
        refine lv_istore (lv' := [(8, .int (ct (70 * t + (30 * sd + opn i + 10)))), (7, .int (nI (opn i))), (0, .ref (g k)), (1, .ref (g 45)), (2, .int (nI t)), (3, .int (nI sd)), (4, .int (lkL (fun p => ct (70 * t + (30 * sd + p + 10))) o1)), (5, .int (bo o1)), (6, .int (nI i))]) hx hb dX3_leastLiked_38 hl (by decide) rfl (fun ls hl => ?_)
        refine lv_aload_n hx hb dX3_leastLiked_40 rfl (lv_at hl 2 rfl) ?_
        refine rd_calli (va_runV (As := []) (rest := []) ⟨hx, hb, hml, hown, hts⟩ (h_leftE l G g hg f k sl lo ib ca mi s0 s1 sw hhe (by first | assumption | omega | decide) (by first | assumption | omega | decide)) (my_cwV hts ok_X3_left w_507 rfl rfl ⟨Nat.le_of_ble_eq_true rfl, Nat.le_of_ble_eq_true rfl⟩) ⟨bP.blind, va_recv hG.1 hP (ci := 3) (q0 := k) rfl (wl_at (by omega) hhe), fun U hU hW => ⟨rfl, by rw [hU]; exact hP, kG.warm hW hG⟩⟩ rfl rfl hl.1 rfl (lv_room (Nat.le_of_ble_eq_true rfl)) dX3_leastLiked_41 ⟨Nat.le_of_ble_eq_true rfl, Nat.le_of_ble_eq_true rfl⟩) (fun r hr9 => ?_)
        subst hr9
        refine lv_iload hx hb dX3_leastLiked_44 (lv_at hl 1 rfl) ?_
        refine rd_calli (va_runSN (As := [.int (lfV ca mi (s0, s1)), .int (nI (opn i))]) (rest := []) ⟨hx, hb, hml, hown, hts⟩ (s_hasBit l G g hg f (lfV ca mi (s0, s1)) (nI (opn i))  ) (⟨my_cn hts ok_X10_hasBit.1 (hG.2.1 (.methodLinkNest RX3 44 yX10_hasBit RX10) (List.mem_of_getElem? (i := 33) rfl)) rfl rfl ⟨Nat.le_of_ble_eq_true rfl, Nat.le_of_ble_eq_true rfl⟩, hts _ ok_X10_hasBit.2.2.1, trivial⟩) ⟨bP.blind, fun U hU hW => ⟨rfl, by rw [hU]; exact hP, kG.warm hW hG⟩⟩ rfl rfl hl.1 rfl (lv_room (Nat.le_of_ble_eq_true rfl)) dX3_leastLiked_46 ⟨Nat.le_of_ble_eq_true rfl, Nat.le_of_ble_eq_true rfl⟩) (fun r hr9 => ?_)
        subst hr9
        refine my_ifeq (tgt := 69) hx hb dX3_leastLiked_49 (by decide) (fun c_49 => ?_) (fun c_49 => ?_)
        · refine lv_iinc (v := nI (i + 1)) (lv' := [(6, .int (nI (i + 1))), (8, .int (ct (70 * t + (30 * sd + opn i + 10)))), (7, .int (nI (opn i))), (0, .ref (g k)), (1, .ref (g 45)), (2, .int (nI t)), (3, .int (nI sd)), (4, .int (lkL (fun p => ct (70 * t + (30 * sd + p + 10))) o1)), (5, .int (bo o1))]) hx hb dX3_leastLiked_69 hl (k := 8) rfl (nI_add i 1) (by decide) rfl (fun ls hl => ?_)
          refine lv_goto (tgt := 9) hx hb dX3_leastLiked_72 (by decide) ?_
          exact ih_1 (i + 1) o1 _ (by omega) ((lkP_n (od := opn) (lk := (fun p => ct (70 * t + (30 * sd + p + 10)))) (lf := (lfV ca mi (s0, s1))) (fun z => c_49 (by rw [hbt_bt (by omega)]; exact z.1))).trans ho1) (by omega) (lv_sub hl [3, 4, 5, 6, 7, 8, 0] rfl)
        · refine lv_iload hx hb dX3_leastLiked_52 (lv_at hl 0 rfl) ?_
          refine lv_iload hx hb dX3_leastLiked_54 (lv_at hl 6 rfl) ?_
          refine lv_icmp_gt (tgt := 69) hx hb dX3_leastLiked_56 (by decide) (fun c_56 => ?_) (fun c_56 => ?_)
          · refine lv_iinc (v := nI (i + 1)) (lv' := [(6, .int (nI (i + 1))), (8, .int (ct (70 * t + (30 * sd + opn i + 10)))), (7, .int (nI (opn i))), (0, .ref (g k)), (1, .ref (g 45)), (2, .int (nI t)), (3, .int (nI sd)), (4, .int (lkL (fun p => ct (70 * t + (30 * sd + p + 10))) o1)), (5, .int (bo o1))]) hx hb dX3_leastLiked_69 hl (k := 8) rfl (nI_add i 1) (by decide) rfl (fun ls hl => ?_)
            refine lv_goto (tgt := 9) hx hb dX3_leastLiked_72 (by decide) ?_
            exact ih_1 (i + 1) o1 _ (by omega) ((lkP_n (od := opn) (lk := (fun p => ct (70 * t + (30 * sd + p + 10)))) (lf := (lfV ca mi (s0, s1))) (fun z => by rw [ho1] at z; exact absurd z.2 (Int32.not_le.mpr c_56))).trans ho1) (by omega) (lv_sub hl [3, 4, 5, 6, 7, 8, 0] rfl)
          · refine lv_iload hx hb dX3_leastLiked_59 (lv_at hl 0 rfl) ?_
            refine lv_istore (lv' := [(4, .int (ct (70 * t + (30 * sd + opn i + 10)))), (8, .int (ct (70 * t + (30 * sd + opn i + 10)))), (7, .int (nI (opn i))), (0, .ref (g k)), (1, .ref (g 45)), (2, .int (nI t)), (3, .int (nI sd)), (5, .int (bo o1)), (6, .int (nI i))]) hx hb dX3_leastLiked_61 hl (by decide) rfl (fun ls hl => ?_)
            refine lv_iconst (v := 1) hx hb dX3_leastLiked_63 (by decide) ?_
            refine lv_iload hx hb dX3_leastLiked_64 (lv_at hl 2 rfl) ?_
            refine lv_ishl hx hb dX3_leastLiked_66 ?_
            refine lv_istore (lv' := [(5, .int (1 <<< ((nI (opn i)) &&& 31))), (4, .int (ct (70 * t + (30 * sd + opn i + 10)))), (8, .int (ct (70 * t + (30 * sd + opn i + 10)))), (7, .int (nI (opn i))), (0, .ref (g k)), (1, .ref (g 45)), (2, .int (nI t)), (3, .int (nI sd)), (6, .int (nI i))]) hx hb dX3_leastLiked_67 hl (by decide) rfl (fun ls hl => ?_)
            refine lv_iinc (v := nI (i + 1)) (lv' := [(6, .int (nI (i + 1))), (5, .int (1 <<< ((nI (opn i)) &&& 31))), (4, .int (ct (70 * t + (30 * sd + opn i + 10)))), (8, .int (ct (70 * t + (30 * sd + opn i + 10)))), (7, .int (nI (opn i))), (0, .ref (g k)), (1, .ref (g 45)), (2, .int (nI t)), (3, .int (nI sd))]) hx hb dX3_leastLiked_69 hl (k := 8) rfl (nI_add i 1) (by decide) rfl (fun ls hl => ?_)
            refine lv_goto (tgt := 9) hx hb dX3_leastLiked_72 (by decide) ?_
            exact ih_1 (i + 1) (some (opn i)) _ (by omega) (lkP_y (od := opn) (lk := (fun p => ct (70 * t + (30 * sd + p + 10)))) (lf := (lfV ca mi (s0, s1))) ⟨by rw [← hbt_bt (by omega)]; exact c_49, by rw [ho1]; exact Int32.not_lt.mp c_56⟩) (by omega) (lv_sub hl [5, 6, 7, 8, 2, 1, 0] rfl)
  exact key1 (sl + 1) 0 none _ (Nat.zero_le _) (rfl) (by omega) (lv_sub hl [3, 4, 5, 6, 2, 1, 0] rfl)

