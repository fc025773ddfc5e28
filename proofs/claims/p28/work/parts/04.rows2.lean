def inB (a n b : Int32) : Bool := decide (a ≤ n ∧ n ≤ b)
theorem inB_t {a n b : Int32} (h1 : ¬ n < a) (h2 : ¬ b < n) : inB a n b = true := decide_eq_true ⟨Int32.not_lt.mp h1, Int32.not_lt.mp h2⟩
theorem inB_lo {a n b : Int32} (h : n < a) : ¬ inB a n b = true := fun q => absurd (of_decide_eq_true q).1 (Int32.not_le.mpr h)
theorem inB_hi {a n b : Int32} (h : b < n) : ¬ inB a n b = true := fun q => absurd (of_decide_eq_true q).2 (Int32.not_le.mpr h)
theorem inB_01 {n : Int32} : inB 0 n 1 = true ↔ (n = 0 ∨ n = 1) := by
  constructor
  · intro q
    obtain ⟨h1, h2⟩ := of_decide_eq_true q
    have h1 : (0 : Int) ≤ n.toInt := Int32.le_iff_toInt_le.mp h1
    have h2 : n.toInt ≤ 1 := Int32.le_iff_toInt_le.mp h2
    rcases (show n.toInt = 0 ∨ n.toInt = 1 by omega) with h | h
    · exact Or.inl (Int32.toInt_inj.mp h)
    · exact Or.inr (Int32.toInt_inj.mp h)
  · rintro (h | h) <;> subst h <;> decide
def hbt (x q : Int32) : Bool := decide (¬ x &&& ((1 : Int32) <<< (q &&& 31)) = 0)
theorem inN_n0 {r : Int32} {n : Nat} (h : inN r n = true) : ¬ r < 0 := fun z => inN_lo z h
theorem inN_nn {r : Int32} {n : Nat} (hn : n < 2 ^ 31) (h : inN r n = true) : ¬ nI n ≤ r := fun z => inN_hi hn z h
theorem inN_vp {r : Int32} {n N : Nat} (h : inN r n = true) (hn : n ≤ N) (hN : N < 2 ^ 31) : vp_in r N := by
  obtain ⟨i, hi, rfl⟩ := inN_nat (by omega) h
  exact vp_in_nI (by omega) hN
theorem mw_b {mo wi : Nat} (h1 : mo ≤ 40) (h2 : wi ≤ 70) : mo * wi < 2 ^ 31 := Nat.lt_of_le_of_lt (Nat.mul_le_mul h1 h2) (by decide)
theorem min_n {a b : Nat} (h : b ≤ a) (ha : a < 2 ^ 31) : (if nI b < nI a then nI b else nI a) = nI b := by
  by_cases q : nI b < nI a
  · rw [if_pos q]
  · rw [if_neg q]
    have h2 : ¬ b < a := fun z => q (nI_lt z ha)
    rw [show a = b by omega]
theorem min_s {x : Int32} : (if x < x then x else x) = x := by split <;> rfl
theorem cpy_all {d d2 : Nat → Int32} {N : Nat} (hN : N < 2 ^ 31) : ∀ i, i < N → va_cpy d2 d (Int32.toNatClampNeg 0) (Int32.toNatClampNeg 0) (Int32.toNatClampNeg (nI N)) i = d2 i := by
  intro i hi
  rw [nI_clamp hN, show Int32.toNatClampNeg 0 = 0 from rfl]
  unfold va_cpy
  rw [if_pos ⟨Nat.zero_le _, by omega⟩, Nat.zero_add, Nat.sub_zero]
set_option maxHeartbeats 4000000 in
set_option maxRecDepth 100000 in
theorem r_set (l : Launch) (G : gW) (g : Nat → Nat) (hg : gOK g) (f : Nat → va_E) (k : Nat) (mo : Nat) (wi : Nat) (n : Nat) (d : Nat → Int32) (r : Int32) (q : Int32) (v : Int32) (hk : f k = eO 5 [.int (nI mo), .int (nI wi), .ref (g (k + 1)), .int (nI n)]) (hd : f (k + 1) = eI G (mo * wi) d) (hk3 : k + 1 < 333) (hn : n ≤ mo) (hmo : mo ≤ 40) (hwi : wi ≤ 70) (hr1 : inN r n = true) (hq1 : inN q wi = true) : Met l yX5_set (wsT yX5_set cX5_set 4 none) ({ frames := 0, cells := 0, slots := 0, locals := 0 }) (bP G g f [.ref (g k), .int r, .int q, .int v]) (bQv G g (fun (f' : Nat → va_E) => f' (k + 1) = eI G (mo * wi) (upd d (Int32.toNatClampNeg (r * nI wi + q)) v) ∧ ∀ j, j ≠ k + 1 → f' j = f j)) 0 0 (gA g) := by
  refine Met.ofW (cc := cX5_set) (maxL := 4) (ret := none) (by decide) rfl ?_
  intro p e s m args below meth c s₁ B hml hv
  obtain ⟨rfl, hP, hG⟩ := hv
  have hx := B.exec
  have hb := B.bytes
  have hr := B.returns
  have hts := my_hts (atoms_spec (ws := wsT yX5_set cX5_set 4 none) B.pre)
  have hown : s.vm.findClass RX5 = some m.cls := findClass_of_methodNamed B.named
  have hlocks := B.notSynchronized
  have hS : va_S (gA g) s.heap s.heap [] := va_S.rf
  have hl := lv_entry ([.ref (g k), .int r, .int q, .int v]) (n := 4) (Nat.le_of_ble_eq_true rfl)
  rw [lg_entry_eq]
  generalize (lg_sl ([.ref (g k), .int r, .int q, .int v]) ++ List.replicate (4 - (lg_sl ([.ref (g k), .int r, .int q, .int v])).length) Slot.unset).toArray = ls at hl ⊢
  have hl : lv_has ls 4 [(0, .ref (g k)), (1, .int r), (2, .int q), (3, .int v)] := hl
  refine lv_iload_n hx hb dX5_set_0 rfl (lv_at hl 1 rfl) ?_
  refine lv_if_lt (tgt := 38) hx hb dX5_set_1 (by decide) (fun c_1 => absurd c_1 (inN_n0 hr1)) (fun c_1 => ?_)
  refine lv_iload_n hx hb dX5_set_4 rfl (lv_at hl 1 rfl) ?_
  refine lv_aload_n hx hb dX5_set_5 rfl (lv_at hl 0 rfl) ?_
  refine va_get (D := G.1) (ci := 5) (v := .int (nI n)) (C := RX5) (T := TX5) (N := 4) hx hb hts inlX5 hown hG.1 hP k (wl_at (by omega) hk) rfl 3 (by decide) (hts (.fieldLink RX5 22 "SwornLists$Rows" "size" "I") w_141) (fun _ h9 => h9) rfl dX5_set_6 ?_
  refine lv_icmp_ge (tgt := 38) hx hb dX5_set_9 (by decide) (fun c_9 => absurd c_9 (inN_nn (by omega) hr1)) (fun c_9 => ?_)
  refine lv_iload_n hx hb dX5_set_12 rfl (lv_at hl 2 rfl) ?_
  refine lv_if_lt (tgt := 38) hx hb dX5_set_13 (by decide) (fun c_13 => absurd c_13 (inN_n0 hq1)) (fun c_13 => ?_)
  refine lv_iload_n hx hb dX5_set_16 rfl (lv_at hl 2 rfl) ?_
  refine lv_aload_n hx hb dX5_set_17 rfl (lv_at hl 0 rfl) ?_
  refine va_get (D := G.1) (ci := 5) (v := .int (nI wi)) (C := RX5) (T := TX5) (N := 4) hx hb hts inlX5 hown hG.1 hP k (wl_at (by omega) hk) rfl 1 (by decide) (hts (.fieldLink RX5 15 "SwornLists$Rows" "width" "I") w_71) (fun _ h9 => h9) rfl dX5_set_18 ?_
  refine lv_icmp_ge (tgt := 38) hx hb dX5_set_21 (by decide) (fun c_21 => absurd c_21 (inN_nn (by omega) hq1)) (fun c_21 => ?_)
  refine lv_aload_n hx hb dX5_set_24 rfl (lv_at hl 0 rfl) ?_
  refine va_get (D := G.1) (ci := 5) (v := .ref (g (k + 1))) (C := RX5) (T := TX5) (N := 4) hx hb hts inlX5 hown hG.1 hP k (wl_at (by omega) hk) rfl 2 (by decide) (hts (.fieldLink RX5 18 "SwornLists$Rows" "cells" "[I") w_73) (fun _ h9 => h9) rfl dX5_set_25 ?_
  refine lv_iload_n hx hb dX5_set_28 rfl (lv_at hl 1 rfl) ?_
  refine lv_aload_n hx hb dX5_set_29 rfl (lv_at hl 0 rfl) ?_
  refine va_get (D := G.1) (ci := 5) (v := .int (nI wi)) (C := RX5) (T := TX5) (N := 4) hx hb hts inlX5 hown hG.1 hP k (wl_at (by omega) hk) rfl 1 (by decide) (hts (.fieldLink RX5 15 "SwornLists$Rows" "width" "I") w_71) (fun _ h9 => h9) rfl dX5_set_30 ?_
  refine lv_imul hx hb dX5_set_33 ?_
  refine lv_iload_n hx hb dX5_set_34 rfl (lv_at hl 2 rfl) ?_
  refine lv_iadd hx hb dX5_set_35 ?_
  refine lv_iload_n hx hb dX5_set_36 rfl (lv_at hl 3 rfl) ?_
  refine va_iast hx hb hG.1 hP (wl_D hg f) hS (k + 1) 0 (wl_at (by omega) hd) rfl (at_in hr1 hq1 hn hmo hwi) dX5_set_37 (fun H locs hP _ hS => ?_)
  obtain ⟨f_1, hP, e_1, o_1⟩ := b_put (by omega) hP
  have hd : f_1 (k + 1) = eI G (mo * wi) (upd d (Int32.toNatClampNeg ((r * (nI wi)) + q)) v) := e_1
  replace hk : f_1 k = eO 5 [.int (nI mo), .int (nI wi), .ref (g (k + 1)), .int (nI n)] := (o_1 k (by omega)).trans hk
  exact W.vret hx hb hr (fun t ht hW => ⟨⟨f_1, rfl, (⟨hd, fun j hj => (o_1 j (by omega))⟩), by rw [ht]; exact hP⟩, hS.F ht⟩) hS.2.2 dX5_set_38
set_option maxHeartbeats 4000000 in
set_option maxRecDepth 100000 in
theorem r_foldRow (l : Launch) (G : gW) (g : Nat → Nat) (hg : gOK g) (f : Nat → va_E) (k : Nat) (mo : Nat) (wi : Nat) (n : Nat) (d : Nat → Int32) (h : Int64) (r : Int32) (hk : f k = eO 5 [.int (nI mo), .int (nI wi), .ref (g (k + 1)), .int (nI n)]) (hd : f (k + 1) = eI G (mo * wi) d) (hk3 : k + 1 < 333) (hn : n ≤ mo) (hmo : mo ≤ 40) (hwi : wi ≤ 70) : Met l yX5_foldRow (wsT yX5_foldRow cX5_foldRow 5 (some .long)) ({ frames := 1, cells := 0, slots := 0, locals := 23 }) (bP G g f [.ref (g k), .long h, .int r]) (rQl (fun z9 => True)) 0 0 fr0 := by
  refine Met.ofW (cc := cX5_foldRow) (maxL := 5) (ret := (some .long)) (by decide) rfl ?_
  intro p e s m args below meth c s₁ B hml hv
  obtain ⟨rfl, hP, hG⟩ := hv
  have hx := B.exec
  have hb := B.bytes
  have hr := B.returns
  have hts := my_hts (atoms_spec (ws := wsT yX5_foldRow cX5_foldRow 5 (some .long)) B.pre)
  have hown : s.vm.findClass RX5 = some m.cls := findClass_of_methodNamed B.named
  have hlocks := B.notSynchronized
  have hl := lv_entry ([.ref (g k), .long h, .int r]) (n := 5) (Nat.le_of_ble_eq_true rfl)
  rw [lg_entry_eq]
  generalize (lg_sl ([.ref (g k), .long h, .int r]) ++ List.replicate (5 - (lg_sl ([.ref (g k), .long h, .int r])).length) Slot.unset).toArray = ls at hl ⊢
  have hl : lv_has ls 5 [(0, .ref (g k)), (1, .long h), (3, .int r)] := hl
  refine lv_iconst (v := 0) hx hb dX5_foldRow_0 (by decide) ?_
  refine lv_istore (lv' := [(4, .int 0), (0, .ref (g k)), (1, .long h), (3, .int r)]) hx hb dX5_foldRow_1 hl (by decide) rfl (fun ls hl => ?_)
  have key1 : ∀ (n9 : Nat) (u : Int64) (i : Nat) (ls : Array Slot), (i ≤ wi) → wi - i < n9 → lv_has ls 5 [(0, .ref (g k)), (1, .long u), (3, .int r), (4, .int (nI i))] → W p l e (headSpec (wsT yX5_foldRow cX5_foldRow 5 (some .long)) ({ frames := 1, cells := 0, slots := 0, locals := 23 })).room s m ([.ref (g k), .long h, .int r] : List Value).toArray below meth c s.heap [] 0 0 (MQ below (rQl (fun z9 => True)) ([.ref (g k), .long h, .int r] : List Value).toArray s 0 0 fr0) (F0 m 3 ls []) := by
    intro n9
    induction n9 with
    | zero => intro u i ls hi hn9; exact absurd hn9 (Nat.not_lt_zero _)
    | succ n9 ih =>
      intro u i ls hi hn9 hl
      refine lv_iload hx hb dX5_foldRow_3 (lv_at hl 3 rfl) ?_
      refine lv_aload_n hx hb dX5_foldRow_5 rfl (lv_at hl 0 rfl) ?_
      refine va_get (D := G.1) (ci := 5) (v := .int (nI wi)) (C := RX5) (T := TX5) (N := 4) hx hb hts inlX5 hown hG.1 hP k (wl_at (by omega) hk) rfl 1 (by decide) (hts (.fieldLink RX5 15 "SwornLists$Rows" "width" "I") w_71) (fun _ h9 => h9) rfl dX5_foldRow_6 ?_
      refine lv_icmp_ge (tgt := 33) hx hb dX5_foldRow_9 (by decide) (fun c_9 => ?_) (fun c_9 => ?_)
      · refine lv_lload_n hx hb dX5_foldRow_33 rfl (lv_at hl 1 rfl) ?_
        exact W.lret (v := u) hx hb hr (fun t ht hW => ⟨_, rfl, (trivial), ht⟩) (fun _ h => absurd h List.not_mem_nil) dX5_foldRow_34
      · have hi9 : i < wi := Nat.not_le.mp (fun z => c_9 (nI_le z (by omega)))
        refine lv_ldc2 (v := 31) hx hb hown (hts (.constantLong RX5 37 (31)) w_957) dX5_foldRow_12 ?_
        refine lv_lload_n hx hb dX5_foldRow_15 rfl (lv_at hl 1 rfl) ?_
        refine lv_lmul hx hb dX5_foldRow_16 ?_
        refine lv_aload_n hx hb dX5_foldRow_17 rfl (lv_at hl 0 rfl) ?_
        refine lv_iload_n hx hb dX5_foldRow_18 rfl (lv_at hl 2 rfl) ?_
        refine lv_iload hx hb dX5_foldRow_19 (lv_at hl 3 rfl) ?_
        refine rd_calli (va_runV (As := [.int r, .int (nI i)]) (rest := [.long (31 * u)]) ⟨hx, hb, hml, hown, hts⟩ (r_at l G g hg f k mo wi n d r (nI i) hk hd (by first | assumption | omega | decide) (by first | assumption | omega | decide) (by first | assumption | omega | decide) (by first | assumption | omega | decide)) (my_cwV hts ok_X5_at w_958 rfl rfl ⟨Nat.le_of_ble_eq_true rfl, Nat.le_of_ble_eq_true rfl⟩) ⟨bP.blind, va_recv hG.1 hP (ci := 5) (q0 := k) rfl (wl_at (by omega) hk), fun U hU hW => ⟨rfl, by rw [hU]; exact hP, kG.warm hW hG⟩⟩ rfl rfl hl.1 rfl (lv_room (Nat.le_of_ble_eq_true rfl)) dX5_foldRow_21 ⟨Nat.le_of_ble_eq_true rfl, Nat.le_of_ble_eq_true rfl⟩) (fun r hr9 => ?_)
        subst hr9
        refine lv_i2l hx hb dX5_foldRow_24 rfl ?_
        refine lv_ladd hx hb dX5_foldRow_25 ?_
        refine lv_lstore_n (lv' := [(1, .long ((31 * u) + (Int32.toInt64 (atv d n wi r (nI i))))), (0, .ref (g k)), (3, .int r), (4, .int (nI i))]) hx hb dX5_foldRow_26 rfl hl (by decide) rfl (fun ls hl => ?_)
        refine lv_iinc (v := nI (i + 1)) (lv' := [(4, .int (nI (i + 1))), (1, .long ((31 * u) + (Int32.toInt64 (atv d n wi r (nI i))))), (0, .ref (g k)), (3, .int r)]) hx hb dX5_foldRow_27 hl (k := 3) rfl (nI_1 i) (by decide) rfl (fun ls hl => ?_)
        refine lv_goto (tgt := 3) hx hb dX5_foldRow_30 (by decide) ?_
        exact ih ((31 * u) + (Int32.toInt64 (atv d n wi r (nI i)))) (i + 1) _ (hi9) (by omega) (lv_sub hl [2, 1, 3, 0] rfl)
  exact key1 (wi + 1) h 0 _ (Nat.zero_le _) (by omega) (lv_sub hl [1, 2, 3, 0] rfl)
set_option maxHeartbeats 4000000 in
set_option maxRecDepth 100000 in
theorem r_foldAll (l : Launch) (G : gW) (g : Nat → Nat) (hg : gOK g) (f : Nat → va_E) (k : Nat) (mo : Nat) (wi : Nat) (n : Nat) (d : Nat → Int32) (h : Int64) (hk : f k = eO 5 [.int (nI mo), .int (nI wi), .ref (g (k + 1)), .int (nI n)]) (hd : f (k + 1) = eI G (mo * wi) d) (hk3 : k + 1 < 333) (hn : n ≤ mo) (hmo : mo ≤ 40) (hwi : wi ≤ 70) : Met l yX5_foldAll (wsT yX5_foldAll cX5_foldAll 4 (some .long)) ({ frames := 2, cells := 0, slots := 0, locals := 47 }) (bP G g f [.ref (g k), .long h]) (rQl (fun z9 => True)) 0 0 fr0 := by
  refine Met.ofW (cc := cX5_foldAll) (maxL := 4) (ret := (some .long)) (by decide) rfl ?_
  intro p e s m args below meth c s₁ B hml hv
  obtain ⟨rfl, hP, hG⟩ := hv
  have hx := B.exec
  have hb := B.bytes
  have hr := B.returns
  have hts := my_hts (atoms_spec (ws := wsT yX5_foldAll cX5_foldAll 4 (some .long)) B.pre)
  have hown : s.vm.findClass RX5 = some m.cls := findClass_of_methodNamed B.named
  have hlocks := B.notSynchronized
  have hl := lv_entry ([.ref (g k), .long h]) (n := 4) (Nat.le_of_ble_eq_true rfl)
  rw [lg_entry_eq]
  generalize (lg_sl ([.ref (g k), .long h]) ++ List.replicate (4 - (lg_sl ([.ref (g k), .long h])).length) Slot.unset).toArray = ls at hl ⊢
  have hl : lv_has ls 4 [(0, .ref (g k)), (1, .long h)] := hl
  refine lv_iconst (v := 0) hx hb dX5_foldAll_0 (by decide) ?_
  refine lv_istore_n (lv' := [(3, .int 0), (0, .ref (g k)), (1, .long h)]) hx hb dX5_foldAll_1 rfl hl (by decide) rfl (fun ls hl => ?_)
  have key1 : ∀ (n9 : Nat) (u : Int64) (i : Nat) (ls : Array Slot), (i ≤ n) → n - i < n9 → lv_has ls 4 [(0, .ref (g k)), (1, .long u), (3, .int (nI i))] → W p l e (headSpec (wsT yX5_foldAll cX5_foldAll 4 (some .long)) ({ frames := 2, cells := 0, slots := 0, locals := 47 })).room s m ([.ref (g k), .long h] : List Value).toArray below meth c s.heap [] 0 0 (MQ below (rQl (fun z9 => True)) ([.ref (g k), .long h] : List Value).toArray s 0 0 fr0) (F0 m 2 ls []) := by
    intro n9
    induction n9 with
    | zero => intro u i ls hi hn9; exact absurd hn9 (Nat.not_lt_zero _)
    | succ n9 ih =>
      intro u i ls hi hn9 hl
      refine lv_iload_n hx hb dX5_foldAll_2 rfl (lv_at hl 2 rfl) ?_
      refine lv_aload_n hx hb dX5_foldAll_3 rfl (lv_at hl 0 rfl) ?_
      refine va_get (D := G.1) (ci := 5) (v := .int (nI n)) (C := RX5) (T := TX5) (N := 4) hx hb hts inlX5 hown hG.1 hP k (wl_at (by omega) hk) rfl 3 (by decide) (hts (.fieldLink RX5 22 "SwornLists$Rows" "size" "I") w_141) (fun _ h9 => h9) rfl dX5_foldAll_4 ?_
      refine lv_icmp_ge (tgt := 23) hx hb dX5_foldAll_7 (by decide) (fun c_7 => ?_) (fun c_7 => ?_)
      · refine lv_lload_n hx hb dX5_foldAll_23 rfl (lv_at hl 1 rfl) ?_
        exact W.lret (v := u) hx hb hr (fun t ht hW => ⟨_, rfl, (trivial), ht⟩) (fun _ h => absurd h List.not_mem_nil) dX5_foldAll_24
      · have hi9 : i < n := Nat.not_le.mp (fun z => c_7 (nI_le z (by omega)))
        refine lv_aload_n hx hb dX5_foldAll_10 rfl (lv_at hl 0 rfl) ?_
        refine lv_lload_n hx hb dX5_foldAll_11 rfl (lv_at hl 1 rfl) ?_
        refine lv_iload_n hx hb dX5_foldAll_12 rfl (lv_at hl 2 rfl) ?_
        refine rd_calll (va_runV (As := [.long u, .int (nI i)]) (rest := []) ⟨hx, hb, hml, hown, hts⟩ (r_foldRow l G g hg f k mo wi n d u (nI i) hk hd (by first | assumption | omega | decide) (by first | assumption | omega | decide) (by first | assumption | omega | decide) (by first | assumption | omega | decide)) (my_cwV hts ok_X5_foldRow w_953 rfl rfl ⟨Nat.le_of_ble_eq_true rfl, Nat.le_of_ble_eq_true rfl⟩) ⟨bP.blind, va_recv hG.1 hP (ci := 5) (q0 := k) rfl (wl_at (by omega) hk), fun U hU hW => ⟨rfl, by rw [hU]; exact hP, kG.warm hW hG⟩⟩ rfl rfl hl.1 rfl (lv_room (Nat.le_of_ble_eq_true rfl)) dX5_foldAll_13 ⟨Nat.le_of_ble_eq_true rfl, Nat.le_of_ble_eq_true rfl⟩) (fun v2 _ => ?_)
        refine lv_lstore_n (lv' := [(1, .long v2), (0, .ref (g k)), (3, .int (nI i))]) hx hb dX5_foldAll_16 rfl hl (by decide) rfl (fun ls hl => ?_)
        refine lv_iinc (v := nI (i + 1)) (lv' := [(3, .int (nI (i + 1))), (1, .long v2), (0, .ref (g k))]) hx hb dX5_foldAll_17 hl (k := 2) rfl (nI_1 i) (by decide) rfl (fun ls hl => ?_)
        refine lv_goto (tgt := 2) hx hb dX5_foldAll_20 (by decide) ?_
        exact ih v2 (i + 1) _ (hi9) (by omega) (lv_sub hl [2, 1, 0] rfl)
  exact key1 (n + 1) h 0 _ (Nat.zero_le _) (by omega) (lv_sub hl [1, 2, 0] rfl)
set_option maxHeartbeats 4000000 in
set_option maxRecDepth 100000 in
theorem r_copy (l : Launch) (G : gW) (g : Nat → Nat) (hg : gOK g) (f : Nat → va_E) (k : Nat) (mo : Nat) (wi : Nat) (n : Nat) (d : Nat → Int32) (k2 : Nat) (n2 : Nat) (d2 : Nat → Int32) (hk : f k = eO 5 [.int (nI mo), .int (nI wi), .ref (g (k + 1)), .int (nI n)]) (hd : f (k + 1) = eI G (mo * wi) d) (hk2 : f k2 = eO 5 [.int (nI mo), .int (nI wi), .ref (g (k2 + 1)), .int (nI n2)]) (hd2 : f (k2 + 1) = eI G (mo * wi) d2) (hk3 : k + 1 < 333) (hn : n ≤ mo) (hmo : mo ≤ 40) (hwi : wi ≤ 70) (hk23 : k2 + 1 < 333) (hn2 : n2 ≤ mo) (hne : k + 1 < k2 ∨ k2 + 1 < k) : Met l yX5_copy (wsT yX5_copy cX5_copy 2 none) ({ frames := 1, cells := 0, slots := 0, locals := 18 }) (bP G g f [.ref (g k), .ref (g k2)]) (bQv G g (fun (f' : Nat → va_E) => ∃ dd : Nat → Int32, f' k = eO 5 [.int (nI mo), .int (nI wi), .ref (g (k + 1)), .int (nI n2)] ∧ f' (k + 1) = eI G (mo * wi) dd ∧ (∀ i, i < mo * wi → dd i = d2 i) ∧ ∀ j, (j ≠ k ∧ j ≠ k + 1) → f' j = f j)) 0 0 (gA g) := by
  refine Met.ofW (cc := cX5_copy) (maxL := 2) (ret := none) (by decide) rfl ?_
  intro p e s m args below meth c s₁ B hml hv
  obtain ⟨rfl, hP, hG⟩ := hv
  have hx := B.exec
  have hb := B.bytes
  have hr := B.returns
  have hts := my_hts (atoms_spec (ws := wsT yX5_copy cX5_copy 2 none) B.pre)
  have hown : s.vm.findClass RX5 = some m.cls := findClass_of_methodNamed B.named
  have hlocks := B.notSynchronized
  have hS : va_S (gA g) s.heap s.heap [] := va_S.rf
  have hl := lv_entry ([.ref (g k), .ref (g k2)]) (n := 2) (Nat.le_of_ble_eq_true rfl)
  rw [lg_entry_eq]
  generalize (lg_sl ([.ref (g k), .ref (g k2)]) ++ List.replicate (2 - (lg_sl ([.ref (g k), .ref (g k2)])).length) Slot.unset).toArray = ls at hl ⊢
  have hl : lv_has ls 2 [(0, .ref (g k)), (1, .ref (g k2))] := hl
  refine lv_aload_n hx hb dX5_copy_0 rfl (lv_at hl 0 rfl) ?_
  refine lv_aload_n hx hb dX5_copy_1 rfl (lv_at hl 0 rfl) ?_
  refine va_get (D := G.1) (ci := 5) (v := .int (nI mo)) (C := RX5) (T := TX5) (N := 4) hx hb hts inlX5 hown hG.1 hP k (wl_at (by omega) hk) rfl 0 (by decide) (hts (.fieldLink RX5 9 "SwornLists$Rows" "most" "I") w_70) (fun _ h9 => h9) rfl dX5_copy_2 ?_
  refine lv_aload_n hx hb dX5_copy_5 rfl (lv_at hl 1 rfl) ?_
  refine va_get (D := G.1) (ci := 5) (v := .int (nI n2)) (C := RX5) (T := TX5) (N := 4) hx hb hts inlX5 hown hG.1 hP k2 (wl_at (by omega) hk2) rfl 3 (by decide) (hts (.fieldLink RX5 22 "SwornLists$Rows" "size" "I") w_141) (fun _ h9 => h9) rfl dX5_copy_6 ?_
  refine va_mmin hx hb (by rw [hml]; exact hl.1.symm) hown (hts (.methodLink RX5 25 Lib.Math.min.name) w_902) (hts (.static Lib.Math.min.name) w_152) (hts (.initialized "java/lang/Math") w_153) (hts (.code Lib.Math.min.name Lib.Math.min.code 2 (some .int)) w_154) (Nat.le_of_ble_eq_true rfl) (Nat.le_of_ble_eq_true rfl) (Nat.le_of_ble_eq_true rfl) (Nat.le_of_ble_eq_true rfl) dX5_copy_9 ?_
  refine my_bei (v := nI n2) (min_n hn2 (by omega)) ?_
  refine va_put (D := G.1) (ci := 5) (v := .int (nI n2)) (ty := .int) (C := RX5) (T := TX5) (N := 4) hx hb hts inlX5 tyX5 tyX5_ok nmX5 hown hG.1 hP (wl_D hg f) hS k (wl_at (by omega) hk) rfl 3 (by decide) (hts (.fieldLink RX5 22 "SwornLists$Rows" "size" "I") w_141) (fun _ h9 => h9) rfl (by decide +kernel) rfl rfl (Nat.le_of_ble_eq_true rfl) dX5_copy_12 (fun H locs hP _ hS => ?_)
  obtain ⟨f_1, hP, e_1, o_1⟩ := b_put (by omega) hP
  have hk : f_1 k = eO 5 [.int (nI mo), .int (nI wi), .ref (g (k + 1)), .int (nI n2)] := e_1
  replace hd : f_1 (k + 1) = eI G (mo * wi) d := (o_1 (k + 1) (by omega)).trans hd
  replace hk2 : f_1 k2 = eO 5 [.int (nI mo), .int (nI wi), .ref (g (k2 + 1)), .int (nI n2)] := (o_1 k2 (by omega)).trans hk2
  replace hd2 : f_1 (k2 + 1) = eI G (mo * wi) d2 := (o_1 (k2 + 1) (by omega)).trans hd2
  refine lv_aload_n hx hb dX5_copy_15 rfl (lv_at hl 1 rfl) ?_
  refine va_get (D := G.1) (ci := 5) (v := .ref (g (k2 + 1))) (C := RX5) (T := TX5) (N := 4) hx hb hts inlX5 hown hG.1 hP k2 (wl_at (by omega) hk2) rfl 2 (by decide) (hts (.fieldLink RX5 18 "SwornLists$Rows" "cells" "[I") w_73) (fun _ h9 => h9) rfl dX5_copy_16 ?_
  refine lv_iconst (v := 0) hx hb dX5_copy_19 (by decide) ?_
  refine lv_aload_n hx hb dX5_copy_20 rfl (lv_at hl 0 rfl) ?_
  refine va_get (D := G.1) (ci := 5) (v := .ref (g (k + 1))) (C := RX5) (T := TX5) (N := 4) hx hb hts inlX5 hown hG.1 hP k (wl_at (by omega) hk) rfl 2 (by decide) (hts (.fieldLink RX5 18 "SwornLists$Rows" "cells" "[I") w_73) (fun _ h9 => h9) rfl dX5_copy_21 ?_
  refine lv_iconst (v := 0) hx hb dX5_copy_24 (by decide) ?_
  refine lv_aload_n hx hb dX5_copy_25 rfl (lv_at hl 0 rfl) ?_
  refine va_get (D := G.1) (ci := 5) (v := .ref (g (k + 1))) (C := RX5) (T := TX5) (N := 4) hx hb hts inlX5 hown hG.1 hP k (wl_at (by omega) hk) rfl 2 (by decide) (hts (.fieldLink RX5 18 "SwornLists$Rows" "cells" "[I") w_73) (fun _ h9 => h9) rfl dX5_copy_26 ?_
  refine va_alen hx hb hG.1 hP (k + 1) 0 (wl_at (by omega) hd) rfl rfl dX5_copy_29 ?_
  refine lv_aload_n hx hb dX5_copy_30 rfl (lv_at hl 1 rfl) ?_
  refine va_get (D := G.1) (ci := 5) (v := .ref (g (k2 + 1))) (C := RX5) (T := TX5) (N := 4) hx hb hts inlX5 hown hG.1 hP k2 (wl_at (by omega) hk2) rfl 2 (by decide) (hts (.fieldLink RX5 18 "SwornLists$Rows" "cells" "[I") w_73) (fun _ h9 => h9) rfl dX5_copy_31 ?_
  refine va_alen hx hb hG.1 hP (k2 + 1) 0 (wl_at (by omega) hd2) rfl rfl dX5_copy_34 ?_
  refine va_mmin hx hb (by rw [hml]; exact hl.1.symm) hown (hts (.methodLink RX5 25 Lib.Math.min.name) w_902) (hts (.static Lib.Math.min.name) w_152) (hts (.initialized "java/lang/Math") w_153) (hts (.code Lib.Math.min.name Lib.Math.min.code 2 (some .int)) w_154) (Nat.le_of_ble_eq_true rfl) (Nat.le_of_ble_eq_true rfl) (Nat.le_of_ble_eq_true rfl) (Nat.le_of_ble_eq_true rfl) dX5_copy_35 ?_
  refine my_bei (v := nI (mo * wi)) (min_s) ?_
  refine va_copyi hx hb (by rw [hml]; exact hl.1.symm) hown (hts (.methodLink RX5 31 arraycopyName) w_903) (hts (.native arraycopyName) w_599) (hts (.static arraycopyName) w_600) (hts (.initialized "java/lang/System") w_601) hG.1 hP (wl_D hg f_1) hS (k2 + 1) (k + 1) 0 0 (wl_at (by omega) hd2) (wl_at (by omega) hd) rfl rfl rfl (by decide) (by decide) (nI_pos (mw_b hmo hwi)) (by rw [nI_clamp (mw_b hmo hwi)]; exact Nat.le_of_eq (Nat.zero_add _)) (by rw [nI_clamp (mw_b hmo hwi)]; exact Nat.le_of_eq (Nat.zero_add _)) (fun _ _ => rfl) (Nat.le_of_ble_eq_true rfl) (Nat.le_of_ble_eq_true rfl) dX5_copy_38 (fun H locs hP _ hS => ?_)
  obtain ⟨f_2, hP, e_2, o_2⟩ := b_put (by omega) hP
  have hd : f_2 (k + 1) = eI G (mo * wi) (va_cpy d2 d (Int32.toNatClampNeg 0) (Int32.toNatClampNeg 0) (Int32.toNatClampNeg (nI (mo * wi)))) := e_2
  replace hk : f_2 k = eO 5 [.int (nI mo), .int (nI wi), .ref (g (k + 1)), .int (nI n2)] := (o_2 k (by omega)).trans hk
  replace hk2 : f_2 k2 = eO 5 [.int (nI mo), .int (nI wi), .ref (g (k2 + 1)), .int (nI n2)] := (o_2 k2 (by omega)).trans hk2
  replace hd2 : f_2 (k2 + 1) = eI G (mo * wi) d2 := (o_2 (k2 + 1) (by omega)).trans hd2
  exact W.vret hx hb hr (fun t ht hW => ⟨⟨f_2, rfl, (⟨_, hk, hd, cpy_all (mw_b hmo hwi), fun j hj => ((o_2 j (by omega))).trans (o_1 j (by omega))⟩), by rw [ht]; exact hP⟩, hS.F ht⟩) hS.2.2 dX5_copy_41

