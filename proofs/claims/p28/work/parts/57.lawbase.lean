-- ===== end of PART A; then your names; then what follows =====
/-! THE CLAIM OUT OF ONE WALK OF THE LAW'S BODY. Your part is whole_start (and what it stands on); all else here is the same for every law, but numbers. -/
def R_law : String := "SwornListsLaw"
def lw_P (b : Addr) (xs : List Int32) (args : Array Value) (s : State) : Prop := args = #[.ref b] ∧ s.IntsAt b xs ∧ xs.length ≤ 5120 ∧ (Jvm.Cond.and given_1 narrow_1).before args s = true
def lw_Q (_ : Array Value) (s : State) (o : Outcome) (t : State) : Prop := o = .returned (some (.int 1)) ∧ Framed s o t [] 600000 7302249
def lw_Z (below : List Frame) (a : Array Value) (s : State) : State → Prop := fun t => ∃ o, t.status = .running ∧ Ended t below o ∧ lw_Q a s o t
/-- the law's own end, with 1 on the stack, nothing written that was there before, its room as the claim has it -/
theorem lw_ret {p : Program} {l : Launch} {e : Env} {s : State} {m : MethodId} {below : List Frame} {meth : Method} {c : Code} {b : Nat} (hx : p.tables.exec = Jvm.exec) (hb : c.code = code) (hr : meth.sig.returnType = ret) (hlocks : meth.locks = false) {pc : Nat} {H : Heap} {ls : Array Slot} (hdg : decode code pc = .ok (.ireturn, 1)) : W p l e room_1 s m #[Value.ref b] below meth c H [] 600000 7302249 (lw_Z below #[Value.ref b] s) (F0 m pc ls [.int 1]) := by
  intro T hT X
  obtain ⟨fs, hret, hrun, hended, hW, hframe⟩ := X.leave (v := some (.int 1)) (hlocks := hlocks) (fun h => by rw [hr] at h; cases h)
  have hmeth' : T.vm.method? m = some meth := X.method'
  refine ⟨T.setFrames fs, ?_, .returned (some (.int 1)), hrun, hended, rfl, ⟨_, rfl⟩, hW, hframe⟩
  jvm_step X.here [X.here.top, hx, hb, hdg, hmeth', hr, ret, narrow_b1]
  (try refine ⟨rfl, ?_⟩); (try refine ⟨rfl, ?_⟩)
  first | (intro acts; rw [hret _ acts rfl rfl rfl]) | rw [hret _ _ rfl rfl rfl]
  exact Steps.refl _
/-- what holds at the law's entry: the machine, the code, the tables' words (any of lw_tbl by 'hts w (by decide +kernel)'), the script of L ints xs at the cell b, what the Statement gives of the start (any of its parts by flat_of_before) -/
def lw_At (p : Program) (s : State) (m : MethodId) (meth : Method) (c : Code) (b L : Nat) (xs : Nat → Int32) : Prop :=
  p.tables.exec = Jvm.exec ∧ c.code = code ∧ meth.sig.returnType = ret ∧ c.maxLocals = 4 ∧ s.vm.findClass R_law = some m.cls ∧ (∀ w ∈ lw_tbl, w.before #[Value.ref b] s = true) ∧ va_X b L xs s s.heap ∧ b < s.heap.size ∧ meth.locks = false ∧ (Jvm.Cond.and given_1 narrow_1).before #[Value.ref b] s = true
theorem nw_of {w : Cond} (hw : nwOk w = true) {A : Array Value} {U : State} (h : w.before A U = true) : va_Nw w U := by
  cases w <;> first | exact va_Nw.of rfl h | (simp [nwOk] at hw)
theorem mem_t1 {w : Cond} (h : w ∈ tables_1_1) : w ∈ lw_tbl := List.mem_append_right _ (List.mem_append_left _ h)
theorem mem_t2 {w : Cond} (h : w ∈ tables_1_2) : w ∈ lw_tbl := List.mem_append_right _ (List.mem_append_right _ (List.mem_append_left _ h))
theorem mem_t3 {w : Cond} (h : w ∈ tables_1_3) : w ∈ lw_tbl := List.mem_append_right _ (List.mem_append_right _ (List.mem_append_right _ (List.mem_append_left _ h)))
set_option maxRecDepth 20000 in
theorem nwi_0 : (Cond.fieldLinkNest RX10 57 RX0 "people" "LSwornLists$Rows;" RX10) ∈ lw_tbl := mem_t1 (List.mem_of_getElem? (i := 90) rfl)
set_option maxRecDepth 20000 in
theorem nwi_1 : (Cond.fieldLinkNest RX1 110 RX0 "people" "LSwornLists$Rows;" RX10) ∈ lw_tbl := mem_t1 (List.mem_of_getElem? (i := 91) rfl)
set_option maxRecDepth 20000 in
theorem nwi_2 : (Cond.fieldLinkNest RX10 82 RX0 "facts" "LSwornLists$Rows;" RX10) ∈ lw_tbl := mem_t1 (List.mem_of_getElem? (i := 93) rfl)
set_option maxRecDepth 20000 in
theorem nwi_3 : (Cond.fieldLinkNest RX10 88 RX0 "rolls" "LSwornLists$Rows;" RX10) ∈ lw_tbl := mem_t1 (List.mem_of_getElem? (i := 95) rfl)
set_option maxRecDepth 20000 in
theorem nwi_4 : (Cond.fieldLinkNest RX10 134 RX0 "acts" "LSwornLists$Rows;" RX10) ∈ lw_tbl := mem_t1 (List.mem_of_getElem? (i := 97) rfl)
set_option maxRecDepth 20000 in
theorem nwi_5 : (Cond.fieldLinkNest RX9 53 RX0 "trials" "LSwornLists$Rows;" RX10) ∈ lw_tbl := mem_t1 (List.mem_of_getElem? (i := 99) rfl)
set_option maxRecDepth 20000 in
theorem nwi_6 : (Cond.fieldLinkNest RX1 43 RX0 "trials" "LSwornLists$Rows;" RX10) ∈ lw_tbl := mem_t1 (List.mem_of_getElem? (i := 100) rfl)
set_option maxRecDepth 20000 in
theorem nwi_7 : (Cond.fieldLinkNest RX10 162 RX0 "trials" "LSwornLists$Rows;" RX10) ∈ lw_tbl := mem_t1 (List.mem_of_getElem? (i := 101) rfl)
set_option maxRecDepth 20000 in
theorem nwi_8 : (Cond.fieldLinkNest RX10 137 RX0 "laws" "LSwornLists$Shelf;" RX10) ∈ lw_tbl := mem_t1 (List.mem_of_getElem? (i := 103) rfl)
set_option maxRecDepth 20000 in
theorem nwi_9 : (Cond.fieldLinkNest RX10 98 RX0 "texts" "LSwornLists$Shelf;" RX10) ∈ lw_tbl := mem_t1 (List.mem_of_getElem? (i := 105) rfl)
set_option maxRecDepth 20000 in
theorem nwi_10 : (Cond.fieldLinkNest RX10 201 RX0 "pay" "I" RX10) ∈ lw_tbl := mem_t1 (List.mem_of_getElem? (i := 107) rfl)
set_option maxRecDepth 20000 in
theorem nwi_11 : (Cond.fieldLinkNest RX10 204 RX0 "fine" "I" RX10) ∈ lw_tbl := mem_t1 (List.mem_of_getElem? (i := 109) rfl)
set_option maxRecDepth 20000 in
theorem nwi_12 : (Cond.fieldLinkNest RX1 96 RX3 "inBox" "I" RX10) ∈ lw_tbl := mem_t1 (List.mem_of_getElem? (i := 140) rfl)
set_option maxRecDepth 20000 in
theorem nwi_13 : (Cond.fieldLinkNest RX10 176 RX3 "inBox" "I" RX10) ∈ lw_tbl := mem_t1 (List.mem_of_getElem? (i := 141) rfl)
set_option maxRecDepth 20000 in
theorem nwi_14 : (Cond.fieldLinkNest RX10 208 RX3 "missing" "I" RX10) ∈ lw_tbl := mem_t1 (List.mem_of_getElem? (i := 144) rfl)
set_option maxRecDepth 20000 in
theorem nwi_15 : (Cond.fieldLinkNest RX1 107 RX3 "sworn" "I" RX10) ∈ lw_tbl := mem_t1 (List.mem_of_getElem? (i := 147) rfl)
set_option maxRecDepth 20000 in
theorem nwi_16 : (Cond.fieldLinkNest RX10 188 RX3 "sworn" "I" RX10) ∈ lw_tbl := mem_t1 (List.mem_of_getElem? (i := 149) rfl)
set_option maxRecDepth 20000 in
theorem nwi_17 : (Cond.fieldLinkNest RX10 16 RX1 "book" "LSwornLists$Book;" RX10) ∈ lw_tbl := mem_t1 (List.mem_of_getElem? (i := 170) rfl)
set_option maxRecDepth 20000 in
theorem nwi_18 : (Cond.fieldLinkNest RX10 236 RX1 "spare" "LSwornLists$Hearing;" RX10) ∈ lw_tbl := mem_t1 (List.mem_of_getElem? (i := 173) rfl)
set_option maxRecDepth 20000 in
theorem nwi_19 : (Cond.fieldLinkNest RX10 227 RX2 "above" "J" RX10) ∈ lw_tbl := mem_t1 (List.mem_of_getElem? (i := 220) rfl)
set_option maxRecDepth 20000 in
theorem nwi_20 : (Cond.fieldLinkNest RX10 231 RX2 "below" "J" RX10) ∈ lw_tbl := mem_t1 (List.mem_of_getElem? (i := 222) rfl)
set_option maxRecDepth 20000 in
theorem nwi_21 : (Cond.fieldLinkNest RX10 251 RX9 "leastSum" "I" RX10) ∈ lw_tbl := mem_t2 (List.mem_of_getElem? (i := 0) rfl)
set_option maxRecDepth 20000 in
theorem nwi_22 : (Cond.methodLinkNest RX1 11 yX0_init RX10) ∈ lw_tbl := mem_t1 (List.mem_of_getElem? (i := 32) rfl)
set_option maxRecDepth 20000 in
theorem nwi_23 : (Cond.methodLinkNest RX6 9 yX8_init RX10) ∈ lw_tbl := mem_t1 (List.mem_of_getElem? (i := 64) rfl)
set_option maxRecDepth 20000 in
theorem nwi_24 : (Cond.methodLinkNest RX1 24 yX3_init RX10) ∈ lw_tbl := mem_t1 (List.mem_of_getElem? (i := 132) rfl)
set_option maxRecDepth 20000 in
theorem nwi_25 : (Cond.methodLinkNest RX10 33 yX4_init RX10) ∈ lw_tbl := mem_t1 (List.mem_of_getElem? (i := 192) rfl)
set_option maxRecDepth 20000 in
theorem nwi_26 : (Cond.methodLinkNest RX10 40 yX2_init RX10) ∈ lw_tbl := mem_t1 (List.mem_of_getElem? (i := 215) rfl)
set_option maxRecDepth 20000 in
theorem nwi_27 : (Cond.methodLinkNest RX10 47 yX9_init RX10) ∈ lw_tbl := mem_t1 (List.mem_of_getElem? (i := 230) rfl)
set_option maxRecDepth 20000 in
theorem nwi_28 : (Cond.methodLinkNest RX10 52 yX0_init RX10) ∈ lw_tbl := mem_t2 (List.mem_of_getElem? (i := 14) rfl)
set_option maxRecDepth 20000 in
theorem nwi_29 : (Cond.methodLinkNest RX0 62 yX10_lowBits RX10) ∈ lw_tbl := mem_t2 (List.mem_of_getElem? (i := 82) rfl)
set_option maxRecDepth 20000 in
theorem nwi_30 : (Cond.methodLinkNest RX4 87 yX10_hasBit RX10) ∈ lw_tbl := mem_t2 (List.mem_of_getElem? (i := 180) rfl)
set_option maxRecDepth 20000 in
theorem nwi_31 : (Cond.methodLinkNest RX1 113 yX10_hasBit RX10) ∈ lw_tbl := mem_t2 (List.mem_of_getElem? (i := 233) rfl)
set_option maxRecDepth 20000 in
theorem nwi_32 : (Cond.methodLinkNest RX1 145 yX10_yearOf RX10) ∈ lw_tbl := mem_t3 (List.mem_of_getElem? (i := 11) rfl)
set_option maxRecDepth 20000 in
theorem nwi_33 : (Cond.methodLinkNest RX3 44 yX10_hasBit RX10) ∈ lw_tbl := mem_t3 (List.mem_of_getElem? (i := 55) rfl)
set_option maxRecDepth 20000 in
theorem nwi_34 : (Cond.methodLinkNest RX3 66 yX10_likesColumn RX10) ∈ lw_tbl := mem_t3 (List.mem_of_getElem? (i := 65) rfl)
set_option maxRecDepth 20000 in
theorem nwi_35 : (Cond.methodLinkNest RX9 64 yX10_hasBit RX10) ∈ lw_tbl := mem_t3 (List.mem_of_getElem? (i := 218) rfl)
theorem nwA_in : ∀ w ∈ nwA, w ∈ lw_tbl := List.forall_mem_cons.mpr ⟨nwi_0, List.forall_mem_cons.mpr ⟨nwi_1, List.forall_mem_cons.mpr ⟨nwi_2, List.forall_mem_cons.mpr ⟨nwi_3, List.forall_mem_cons.mpr ⟨nwi_4, List.forall_mem_cons.mpr ⟨nwi_5, List.forall_mem_cons.mpr ⟨nwi_6, List.forall_mem_cons.mpr ⟨nwi_7, List.forall_mem_cons.mpr ⟨nwi_8, List.forall_mem_cons.mpr ⟨nwi_9, List.forall_mem_cons.mpr ⟨nwi_10, List.forall_mem_cons.mpr ⟨nwi_11, List.forall_mem_cons.mpr ⟨nwi_12, List.forall_mem_cons.mpr ⟨nwi_13, List.forall_mem_cons.mpr ⟨nwi_14, List.forall_mem_cons.mpr ⟨nwi_15, List.forall_mem_cons.mpr ⟨nwi_16, List.forall_mem_cons.mpr ⟨nwi_17, List.forall_mem_cons.mpr ⟨nwi_18, List.forall_mem_cons.mpr ⟨nwi_19, List.forall_mem_cons.mpr ⟨nwi_20, List.forall_mem_cons.mpr ⟨nwi_21, List.forall_mem_cons.mpr ⟨nwi_22, List.forall_mem_cons.mpr ⟨nwi_23, List.forall_mem_cons.mpr ⟨nwi_24, List.forall_mem_cons.mpr ⟨nwi_25, List.forall_mem_cons.mpr ⟨nwi_26, List.forall_mem_cons.mpr ⟨nwi_27, List.forall_mem_cons.mpr ⟨nwi_28, List.forall_mem_cons.mpr ⟨nwi_29, List.forall_mem_cons.mpr ⟨nwi_30, List.forall_mem_cons.mpr ⟨nwi_31, List.forall_mem_cons.mpr ⟨nwi_32, List.forall_mem_cons.mpr ⟨nwi_33, List.forall_mem_cons.mpr ⟨nwi_34, List.forall_mem_cons.mpr ⟨nwi_35, fun _ h => absurd h List.not_mem_nil⟩⟩⟩⟩⟩⟩⟩⟩⟩⟩⟩⟩⟩⟩⟩⟩⟩⟩⟩⟩⟩⟩⟩⟩⟩⟩⟩⟩⟩⟩⟩⟩⟩⟩⟩⟩
theorem kG_start {args : Array Value} {s : State} (hts : ∀ w ∈ lw_tbl, w.before args s = true) : ∃ G : gW, kG G s := by
  have ht : ∀ w ∈ TT, w.before args s = true := fun w h => hts w (List.mem_filter.mp h).1
  obtain ⟨c0, i0, k0⟩ := u_known (C := RX0) (T := TX0) (N := 9) (n := 9) ht inlX0 (ht (.instantiable RX0 9) w_33)
  obtain ⟨c1, i1, k1⟩ := u_known (C := RX1) (T := TX1) (N := 5) (n := 5) ht inlX1 (ht (.instantiable RX1 5) w_13)
  obtain ⟨c2, i2, k2⟩ := u_known (C := RX2) (T := TX2) (N := 2) (n := 2) ht inlX2 (ht (.instantiable RX2 2) w_26)
  obtain ⟨c3, i3, k3⟩ := u_known (C := RX3) (T := TX3) (N := 9) (n := 9) ht inlX3 (ht (.instantiable RX3 9) w_43)
  obtain ⟨c4, i4, k4⟩ := u_known (C := RX4) (T := TX4) (N := 5) (n := 5) ht inlX4 (ht (.instantiable RX4 5) w_22)
  obtain ⟨c5, i5, k5⟩ := u_known (C := RX5) (T := TX5) (N := 4) (n := 4) ht inlX5 (ht (.instantiable RX5 4) w_52)
  obtain ⟨c6, i6, k6⟩ := u_known (C := RX6) (T := TX6) (N := 2) (n := 2) ht inlX6 (ht (.instantiable RX6 2) w_60)
  obtain ⟨c7, i7, k7⟩ := u_known (C := RX8) (T := TX8) (N := 4) (n := 4) ht inlX8 (ht (.instantiable RX8 4) w_79)
  obtain ⟨c8, i8, k8⟩ := u_known (C := RX9) (T := TX9) (N := 6) (n := 6) ht inlX9 (ht (.instantiable RX9 6) w_30)
  obtain ⟨c9, i9, k9⟩ := u_known (C := RX10) (T := TX10) (N := 7) (n := 7) ht inlX10 (ht (.instantiable RX10 7) w_1)
  obtain ⟨c10, i10, k10⟩ := u_known (C := RX11) (T := TX11) (N := 25) (n := 25) ht inlX11 (ht (.instantiable RX11 25) w_4)
  obtain ⟨aI, qI, mI, f1I, f2I, f3I⟩ := Cond.arrayClass_spec (ht (.arrayClass .int) w_72)
  obtain ⟨aJ, qJ, mJ, f1J, f2J, f3J⟩ := Cond.arrayClass_spec (ht (.arrayClass .long) w_46)
  obtain ⟨aZ, qZ, mZ, f1Z, f2Z, f3Z⟩ := Cond.arrayClass_spec (ht (.arrayClass .boolean) w_19)
  have oB := hts (.arrayOver (.object "SwornLists$Book")) (mem_t1 (List.mem_of_getElem? (i := 189) rfl))
  obtain ⟨mB, aB, qB, g1B, -, g3B, g4B, g5B⟩ := Cond.arrayOver_spec oB
  have oH := hts (.arrayOver (.object "SwornLists$Hearing")) (mem_t1 (List.mem_of_getElem? (i := 130) rfl))
  obtain ⟨mH, aH, qH, g1H, -, g3H, g4H, g5H⟩ := Cond.arrayOver_spec oH
  have oT := hts (.arrayOver (.object "SwornLists$Text")) (mem_t1 (List.mem_of_getElem? (i := 81) rfl))
  obtain ⟨mT, aT, qT, g1T, -, g3T, g4T, g5T⟩ := Cond.arrayOver_spec oT
  refine ⟨(((fun k => match k with | 0 => c0 | 1 => c1 | 2 => c2 | 3 => c3 | 4 => c4 | 5 => c5 | 6 => c6 | 7 => c7 | 8 => c8 | 9 => c9 | _ => c10), (fun k => match k with | 0 => i0 | 1 => i1 | 2 => i2 | 3 => i3 | 4 => i4 | 5 => i5 | 6 => i6 | 7 => i7 | 8 => i8 | 9 => i9 | _ => i10)), (fun k => match k with | 0 => aI | 1 => aJ | 2 => aZ | 3 => aB | 4 => aH | _ => aT)), ⟨?_, ?_⟩, fun w hw => nw_of (nwA_ok w hw) (hts w (nwA_in w hw)), va_AO.of oB, va_AO.of oH, va_AO.of oT⟩
  · intro k q hq
    match k, hq with
    | 0, hq => cases hq; exact k0
    | 1, hq => cases hq; exact k1
    | 2, hq => cases hq; exact k2
    | 3, hq => cases hq; exact k3
    | 4, hq => cases hq; exact k4
    | 5, hq => cases hq; exact k5
    | 6, hq => cases hq; exact k6
    | 7, hq => cases hq; exact k7
    | 8, hq => cases hq; exact k8
    | 9, hq => cases hq; exact k9
    | 10, hq => cases hq; exact k10
    | k + 11, hq => simp [vwCl] at hq
  · intro k q hq
    match k, hq with
    | 0, hq => cases hq; exact ⟨fun n z => ⟨fun k h => (by cases h), qI, f2I, mI, f3I⟩, f1I⟩
    | 1, hq => cases hq; exact ⟨fun n z => ⟨fun k h => (by cases h), qJ, f2J, mJ, f3J⟩, f1J⟩
    | 2, hq => cases hq; exact ⟨fun n z => ⟨fun k h => (by cases h), qZ, f2Z, mZ, f3Z⟩, f1Z⟩
    | 3, hq => cases hq; exact ⟨fun n z => ⟨fun k h => (by cases h), qB, g3B, mB, g4B⟩, qB, mB, g3B, g4B, g1B, g5B⟩
    | 4, hq => cases hq; exact ⟨fun n z => ⟨fun k h => (by cases h), qH, g3H, mH, g4H⟩, qH, mH, g3H, g4H, g1H, g5H⟩
    | 5, hq => cases hq; exact ⟨fun n z => ⟨fun k h => (by cases h), qT, g3T, mT, g4T⟩, qT, mT, g3T, g4T, g1T, g5T⟩
    | k + 6, hq => simp at hq

