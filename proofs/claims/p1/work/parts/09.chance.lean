def wv (A T : Nat) : Nat → Nat
  | 0 => 1
  | c + 1 => wv A T c * (A - T + (c + 1)) / (c + 1)
def wz (A T : Nat) : Nat := if T ≤ A then wv A T T else 0
def wchk : Bool := (List.range 41).all fun A => (List.range (A + 1)).all fun T => (List.range (T + 1)).all fun c => Nat.ble (wv A T c) (2 ^ A) && Nat.ble 1 (wv A T c)
theorem wchk_ok : wchk = true := by decide +kernel
theorem wv_b {A T c : Nat} (hA : A ≤ 40) (hT : T ≤ A) (hc : c ≤ T) : wv A T c ≤ 2 ^ A ∧ 1 ≤ wv A T c := by
  have h1 := List.all_eq_true.mp wchk_ok A (List.mem_range.mpr (by omega))
  have h2 := List.all_eq_true.mp h1 T (List.mem_range.mpr (by omega))
  have h3 := List.all_eq_true.mp h2 c (List.mem_range.mpr (by omega))
  rw [Bool.and_eq_true] at h3
  exact ⟨Nat.le_of_ble_eq_true h3.1, Nat.le_of_ble_eq_true h3.2⟩
theorem pw40 {A : Nat} (hA : A ≤ 40) : 2 ^ A ≤ 1099511627776 := Nat.le_trans (Nat.pow_le_pow_right (by decide) hA) (by decide)
theorem wv_s {A T c : Nat} (hA : A ≤ 40) (hT : T ≤ A) (hc : c ≤ T) : wv A T c ≤ 1099511627776 := Nat.le_trans (wv_b hA hT hc).1 (pw40 hA)
theorem wz_b {A T : Nat} (hA : A ≤ 40) : wz A T ≤ 2 ^ A := by
  unfold wz
  split
  · rename_i h; exact (wv_b hA h (Nat.le_refl _)).1
  · exact Nat.zero_le _
theorem wz_p {A T : Nat} (hA : A ≤ 40) (hT : T ≤ A) : 0 < wz A T := by
  unfold wz; rw [if_pos hT]; exact (wv_b hA hT (Nat.le_refl _)).2
theorem wz_s {A T : Nat} (hA : A ≤ 40) : wz A T ≤ 1099511627776 := Nat.le_trans (wz_b hA) (pw40 hA)
theorem wz_m {N K i j : Nat} (hN : N ≤ 40) (hK : K ≤ N) : wz K i * wz (N - K) j ≤ 1099511627776 := by
  refine Nat.le_trans (Nat.mul_le_mul (wz_b (by omega)) (wz_b (by omega))) ?_
  rw [← Nat.pow_add, show K + (N - K) = N by omega]
  exact pw40 hN
theorem wv_m {A T c : Nat} (hA : A ≤ 40) (hT : T ≤ A) (hc : c ≤ T) : wv A T c * (A - T + (c + 1)) < 2 ^ 63 := by
  have h1 := wv_s hA hT hc
  have h2 : A - T + (c + 1) ≤ 41 := by omega
  have h3 := Nat.mul_le_mul h1 h2
  omega
def sm (N K M : Nat) : Nat → Nat → Nat → Nat
  | 0, _, acc => acc
  | f + 1, i, acc => if i ≤ M then sm N K M f (i + 1) (acc + wz K i * wz (N - K) (M - i)) else acc
theorem sm_end {N K M f i acc : Nat} (h : M < i) : sm N K M f i acc = acc := by
  cases f with
  | zero => rfl
  | succ f => show (if i ≤ M then _ else acc) = acc; rw [if_neg (by omega)]
theorem sm_step {N K M f i acc : Nat} (h : i ≤ M) : sm N K M (f + 1) i acc = sm N K M f (i + 1) (acc + wz K i * wz (N - K) (M - i)) := by
  show (if i ≤ M then _ else acc) = _; rw [if_pos h]
def chS (a b c d : Int32) : Nat := sm a.toNatClampNeg b.toNatClampNeg c.toNatClampNeg 42 d.toNatClampNeg 0
theorem lN_ne0 {n : Nat} (h : 0 < n) (hn : n < 2 ^ 63) : ¬ lN n = 0 := fun q => by
  have q2 : lN n = lN 0 := q
  have := (pk_lEQ hn (by decide)).mp q2
  omega
theorem inB_nat {x : Int32} {B : Nat} (hB : B < 2 ^ 31) (h : inB 0 x (nI B) = true) : ∃ n : Nat, n ≤ B ∧ x = nI n := by
  obtain ⟨h1, h2⟩ := of_decide_eq_true h
  exact nI_of2 (nI_toInt hB) (Int32.not_lt.mpr h1) h2
def cdv : Nat → Nat → Nat → Nat
  | 0, x, _ => x
  | f + 1, x, y => if y = 0 then x else cdv f y (x % y)
theorem cdv_0 {f x : Nat} : cdv f x 0 = x := by
  cases f with
  | zero => rfl
  | succ f => rfl
theorem cdv_s {f x y : Nat} (h : 0 < y) : cdv (f + 1) x y = cdv f y (x % y) := by
  show (if y = 0 then x else _) = _; rw [if_neg (by omega)]
theorem cdv_p : ∀ (f x y : Nat), 0 < x → 0 < cdv f x y := by
  intro f
  induction f with
  | zero => intro x y h; exact h
  | succ f ih =>
    intro x y h
    by_cases hy : y = 0
    · subst hy; rw [cdv_0]; exact h
    · rw [cdv_s (by omega)]; exact ih y _ (by omega)
theorem cdv_b : ∀ (f x y B : Nat), x < B → y < B → cdv f x y < B := by
  intro f
  induction f with
  | zero => intro x y B h _; exact h
  | succ f ih =>
    intro x y B h h2
    by_cases hy : y = 0
    · subst hy; rw [cdv_0]; exact h
    · rw [cdv_s (by omega)]; exact ih y _ B h2 (Nat.lt_trans (Nat.mod_lt _ (by omega)) h2)
theorem lcz {n : Nat} (hn : n < 2 ^ 63) : lg_cmp (lN n) 0 = 0 ↔ n = 0 := by
  rw [lg_cmp_eq]
  exact (pk_lEQ (b := 0) hn (by decide))
theorem lcg {n : Nat} (hn : n < 2 ^ 63) : 0 < lg_cmp (lN n) 0 ↔ 0 < n := by
  rw [lg_cmp_gt]
  exact (pk_lLT (a := 0) (by decide) hn)
theorem lcl {n : Nat} (hn : n < 2 ^ 63) : lg_cmp (lN n) 0 ≤ 0 ↔ n = 0 := by
  rw [lg_cmp_le]
  refine (pk_lLE (b := 0) hn (by decide)).trans ?_
  omega
theorem ok_X10_ways : okS yX10_ways cX10_ways 5 (some .long) 2 := ⟨⟨w_763, w_2, ⟨by decide +kernel, by decide +kernel, by decide +kernel⟩⟩, trivial, w_762, trivial⟩
theorem ok_X11_ways : okS yX11_ways cX11_ways 5 (some .long) 2 := ⟨⟨w_778, w_5, ⟨by decide +kernel, by decide +kernel, by decide +kernel⟩⟩, trivial, w_777, trivial⟩
theorem ok_X2_commonDivisor : okS yX2_commonDivisor cX2_commonDivisor 11 (some .long) 2 := ⟨⟨w_770, w_27, ⟨by decide +kernel, by decide +kernel, by decide +kernel⟩⟩, trivial, w_769, trivial⟩
theorem ok_X2_become : okV yX2_become cX2_become 7 (some .int) 2 := ⟨⟨w_767, w_27, ⟨by decide +kernel, by decide +kernel, by decide +kernel⟩⟩, trivial, w_765, w_766⟩
theorem ok_X11_divisor : okS yX11_divisor cX11_divisor 10 (some .long) 2 := ⟨⟨w_786, w_5, ⟨by decide +kernel, by decide +kernel, by decide +kernel⟩⟩, trivial, w_785, trivial⟩
theorem ok_X11_told : okV yX11_told cX11_told 7 (some .int) 2 := ⟨⟨w_782, w_5, ⟨by decide +kernel, by decide +kernel, by decide +kernel⟩⟩, trivial, w_780, w_781⟩
set_option maxHeartbeats 4000000 in
set_option maxRecDepth 100000 in
theorem c_ways (l : Launch) (G : gW) (A : Nat) (T : Nat) (hA : A ≤ 40) (hT : T ≤ 40) : Met l yX10_ways (wsT yX10_ways cX10_ways 5 (some .long)) ({ frames := 0, cells := 0, slots := 0, locals := 0 }) (rP G [.int (nI A), .int (nI T)] []) (rQl (fun r => r = lN (wz A T))) 0 0 fr0 := by
  refine Met.ofW (cc := cX10_ways) (maxL := 5) (ret := (some .long)) (by decide) rfl ?_
  intro p e s m args below meth c s₁ B hml hv
  obtain ⟨rfl, hP, hG⟩ := hv
  have hx := B.exec
  have hb := B.bytes
  have hr := B.returns
  have hts := my_hts (atoms_spec (ws := wsT yX10_ways cX10_ways 5 (some .long)) B.pre)
  have hown : s.vm.findClass RX10 = some m.cls := findClass_of_methodNamed B.named
  have hlocks := B.notSynchronized
  have hP : va_P G.1 vwCl [] s.heap := hP
  have hl := lv_entry ([.int (nI A), .int (nI T)]) (n := 5) (Nat.le_of_ble_eq_true rfl)
  rw [lg_entry_eq]
  generalize (lg_sl ([.int (nI A), .int (nI T)]) ++ List.replicate (5 - (lg_sl ([.int (nI A), .int (nI T)])).length) Slot.unset).toArray = ls at hl ⊢
  have hl : lv_has ls 5 [(0, .int (nI A)), (1, .int (nI T))] := hl
  refine lv_iload_n hx hb dX10_ways_0 rfl (lv_at hl 1 rfl) ?_
  refine lv_if_lt (tgt := 9) hx hb dX10_ways_1 (by decide) (fun c_1 => absurd c_1 (nI_pos (by omega))) (fun c_1 => ?_)
  refine lv_iload_n hx hb dX10_ways_4 rfl (lv_at hl 1 rfl) ?_
  refine lv_iload_n hx hb dX10_ways_5 rfl (lv_at hl 0 rfl) ?_
  refine lv_icmp_le (tgt := 11) hx hb dX10_ways_6 (by decide) (fun c_6 => ?_) (fun c_6 => ?_)
  · have hTA : T ≤ A := (nI_leI (by omega) (by omega)).mp c_6
    refine lv_lconst (v := 1) hx hb dX10_ways_11 (by decide) ?_
    refine lv_lstore_n (lv' := [(2, .long 1), (0, .int (nI A)), (1, .int (nI T))]) hx hb dX10_ways_12 rfl hl (by decide) rfl (fun ls hl => ?_)
    refine lv_iconst (v := 1) hx hb dX10_ways_13 (by decide) ?_
    refine lv_istore (lv' := [(4, .int 1), (2, .long 1), (0, .int (nI A)), (1, .int (nI T))]) hx hb dX10_ways_14 hl (by decide) rfl (fun ls hl => ?_)
    have key : ∀ (n : Nat) (k : Nat) (ls : Array Slot), k ≤ T → T - k < n → lv_has ls 5 [(0, .int (nI A)), (1, .int (nI T)), (2, .long (lN (wv A T k))), (4, .int (nI (k + 1)))] → W p l e (headSpec (wsT yX10_ways cX10_ways 5 (some .long)) ({ frames := 0, cells := 0, slots := 0, locals := 0 })).room s m ([.int (nI A), .int (nI T)] : List Value).toArray below meth c s.heap [] 0 0 (MQ below (rQl (fun r => r = lN (wz A T))) ([.int (nI A), .int (nI T)] : List Value).toArray s 0 0 fr0) (F0 m 16 ls []) := by
      intro n
      induction n with
      | zero => intro k ls hk hn; exact absurd hn (Nat.not_lt_zero _)
      | succ n ih =>
        intro k ls hk hn hl
        refine lv_iload hx hb dX10_ways_16 (lv_at hl 3 rfl) ?_
        refine lv_iload_n hx hb dX10_ways_18 rfl (lv_at hl 1 rfl) ?_
        refine lv_icmp_gt (tgt := 42) hx hb dX10_ways_19 (by decide) (fun c_19 => ?_) (fun c_19 => ?_)
        · refine lv_lload_n hx hb dX10_ways_42 rfl (lv_at hl 2 rfl) ?_
          exact W.lret (v := lN (wv A T k)) hx hb hr (fun t ht hW => ⟨_, rfl, (by
      have h : T < k + 1 := (nI_ltI (by omega) (by omega)).mp c_19
      have h2 : k = T := by omega
      subst h2; unfold wz; rw [if_pos hTA]), ht⟩) (fun _ h => absurd h List.not_mem_nil) dX10_ways_43
        · have hkT : k < T := by
            have h : ¬ T < k + 1 := fun z => c_19 (nI_lt z (by omega))
            omega
          refine lv_lload_n hx hb dX10_ways_22 rfl (lv_at hl 2 rfl) ?_
          refine lv_iload_n hx hb dX10_ways_23 rfl (lv_at hl 0 rfl) ?_
          refine lv_iload_n hx hb dX10_ways_24 rfl (lv_at hl 1 rfl) ?_
          refine lv_isub hx hb dX10_ways_25 ?_
          refine my_bei (v := nI (A - T)) (pk_sub hTA) ?_
          refine lv_iload hx hb dX10_ways_26 (lv_at hl 3 rfl) ?_
          refine lv_iadd hx hb dX10_ways_28 ?_
          refine my_bei (v := nI (A - T + (k + 1))) (nI_add _ _) ?_
          refine lv_i2l hx hb dX10_ways_29 rfl ?_
          refine my_bel (v := lN (A - T + (k + 1))) (nI_l (by omega)) ?_
          refine lv_lmul hx hb dX10_ways_30 ?_
          refine my_bel (v := lN (wv A T k * (A - T + (k + 1)))) (lN_mul _ _) ?_
          refine lv_iload hx hb dX10_ways_31 (lv_at hl 3 rfl) ?_
          refine lv_i2l hx hb dX10_ways_33 rfl ?_
          refine my_bel (v := lN (k + 1)) (nI_l (by omega)) ?_
          refine lv_ldiv hx hb dX10_ways_34 (lN_ne0 (by omega) (by omega)) ?_
          refine my_bel (v := lN (wv A T (k + 1))) (pk_lDiv (wv_m hA hTA hk) (by omega) (by omega)) ?_
          refine lv_lstore_n (lv' := [(2, .long (lN (wv A T (k + 1)))), (0, .int (nI A)), (1, .int (nI T)), (4, .int (nI (k + 1)))]) hx hb dX10_ways_35 rfl hl (by decide) rfl (fun ls hl => ?_)
          refine lv_iinc (v := nI (k + 1 + 1)) (lv' := [(4, .int (nI (k + 1 + 1))), (2, .long (lN (wv A T (k + 1)))), (0, .int (nI A)), (1, .int (nI T))]) hx hb dX10_ways_36 hl (k := 3) rfl (nI_1 (k + 1)) (by decide) rfl (fun ls hl => ?_)
          refine lv_goto (tgt := 16) hx hb dX10_ways_39 (by decide) ?_
          exact ih (k + 1) _ (hkT) (by omega) (lv_sub hl [2, 3, 1, 0] rfl)
    exact key (T + 1) 0 _ (Nat.zero_le _) (by omega) (lv_sub hl [2, 3, 1, 0] rfl)
  · refine lv_lconst (v := 0) hx hb dX10_ways_9 (by decide) ?_
    exact W.lret (v := 0) hx hb hr (fun t ht hW => ⟨_, rfl, (by rw [show wz A T = 0 from if_neg (fun z => c_6 (nI_le z (by omega)))]; rfl), ht⟩) (fun _ h => absurd h List.not_mem_nil) dX10_ways_10
set_option maxHeartbeats 4000000 in
set_option maxRecDepth 100000 in
theorem c_mways (l : Launch) (G : gW) (A : Nat) (T : Nat) (hA : A ≤ 40) (hT : T ≤ 40) : Met l yX11_ways (wsT yX11_ways cX11_ways 5 (some .long)) ({ frames := 0, cells := 0, slots := 0, locals := 0 }) (rP G [.int (nI A), .int (nI T)] []) (rQl (fun r => r = lN (wz A T))) 0 0 fr0 := by
  refine Met.ofW (cc := cX11_ways) (maxL := 5) (ret := (some .long)) (by decide) rfl ?_
  intro p e s m args below meth c s₁ B hml hv
  obtain ⟨rfl, hP, hG⟩ := hv
  have hx := B.exec
  have hb := B.bytes
  have hr := B.returns
  have hts := my_hts (atoms_spec (ws := wsT yX11_ways cX11_ways 5 (some .long)) B.pre)
  have hown : s.vm.findClass RX11 = some m.cls := findClass_of_methodNamed B.named
  have hlocks := B.notSynchronized
  have hP : va_P G.1 vwCl [] s.heap := hP
  have hl := lv_entry ([.int (nI A), .int (nI T)]) (n := 5) (Nat.le_of_ble_eq_true rfl)
  rw [lg_entry_eq]
  generalize (lg_sl ([.int (nI A), .int (nI T)]) ++ List.replicate (5 - (lg_sl ([.int (nI A), .int (nI T)])).length) Slot.unset).toArray = ls at hl ⊢
  have hl : lv_has ls 5 [(0, .int (nI A)), (1, .int (nI T))] := hl
  refine lv_iload_n hx hb dX11_ways_0 rfl (lv_at hl 1 rfl) ?_
  refine lv_if_lt (tgt := 9) hx hb dX11_ways_1 (by decide) (fun c_1 => absurd c_1 (nI_pos (by omega))) (fun c_1 => ?_)
  refine lv_iload_n hx hb dX11_ways_4 rfl (lv_at hl 1 rfl) ?_
  refine lv_iload_n hx hb dX11_ways_5 rfl (lv_at hl 0 rfl) ?_
  refine lv_icmp_le (tgt := 11) hx hb dX11_ways_6 (by decide) (fun c_6 => ?_) (fun c_6 => ?_)
  · have hTA : T ≤ A := (nI_leI (by omega) (by omega)).mp c_6
    refine lv_lconst (v := 1) hx hb dX11_ways_11 (by decide) ?_
    refine lv_lstore_n (lv' := [(2, .long 1), (0, .int (nI A)), (1, .int (nI T))]) hx hb dX11_ways_12 rfl hl (by decide) rfl (fun ls hl => ?_)
    refine lv_iconst (v := 1) hx hb dX11_ways_13 (by decide) ?_
    refine lv_istore (lv' := [(4, .int 1), (2, .long 1), (0, .int (nI A)), (1, .int (nI T))]) hx hb dX11_ways_14 hl (by decide) rfl (fun ls hl => ?_)
    have key : ∀ (n : Nat) (k : Nat) (ls : Array Slot), k ≤ T → T - k < n → lv_has ls 5 [(0, .int (nI A)), (1, .int (nI T)), (2, .long (lN (wv A T k))), (4, .int (nI (k + 1)))] → W p l e (headSpec (wsT yX11_ways cX11_ways 5 (some .long)) ({ frames := 0, cells := 0, slots := 0, locals := 0 })).room s m ([.int (nI A), .int (nI T)] : List Value).toArray below meth c s.heap [] 0 0 (MQ below (rQl (fun r => r = lN (wz A T))) ([.int (nI A), .int (nI T)] : List Value).toArray s 0 0 fr0) (F0 m 16 ls []) := by
      intro n
      induction n with
      | zero => intro k ls hk hn; exact absurd hn (Nat.not_lt_zero _)
      | succ n ih =>
        intro k ls hk hn hl
        refine lv_iload hx hb dX11_ways_16 (lv_at hl 3 rfl) ?_
        refine lv_iload_n hx hb dX11_ways_18 rfl (lv_at hl 1 rfl) ?_
        refine lv_icmp_gt (tgt := 42) hx hb dX11_ways_19 (by decide) (fun c_19 => ?_) (fun c_19 => ?_)
        · refine lv_lload_n hx hb dX11_ways_42 rfl (lv_at hl 2 rfl) ?_
          exact W.lret (v := lN (wv A T k)) hx hb hr (fun t ht hW => ⟨_, rfl, (by
      have h : T < k + 1 := (nI_ltI (by omega) (by omega)).mp c_19
      have h2 : k = T := by omega
      subst h2; unfold wz; rw [if_pos hTA]), ht⟩) (fun _ h => absurd h List.not_mem_nil) dX11_ways_43
        · have hkT : k < T := by
            have h : ¬ T < k + 1 := fun z => c_19 (nI_lt z (by omega))
            omega
          refine lv_lload_n hx hb dX11_ways_22 rfl (lv_at hl 2 rfl) ?_
          refine lv_iload_n hx hb dX11_ways_23 rfl (lv_at hl 0 rfl) ?_
          refine lv_iload_n hx hb dX11_ways_24 rfl (lv_at hl 1 rfl) ?_
          refine lv_isub hx hb dX11_ways_25 ?_
          refine my_bei (v := nI (A - T)) (pk_sub hTA) ?_
          refine lv_iload hx hb dX11_ways_26 (lv_at hl 3 rfl) ?_
          refine lv_iadd hx hb dX11_ways_28 ?_
          refine my_bei (v := nI (A - T + (k + 1))) (nI_add _ _) ?_
          refine lv_i2l hx hb dX11_ways_29 rfl ?_
          refine my_bel (v := lN (A - T + (k + 1))) (nI_l (by omega)) ?_
          refine lv_lmul hx hb dX11_ways_30 ?_
          refine my_bel (v := lN (wv A T k * (A - T + (k + 1)))) (lN_mul _ _) ?_
          refine lv_iload hx hb dX11_ways_31 (lv_at hl 3 rfl) ?_
          refine lv_i2l hx hb dX11_ways_33 rfl ?_
          refine my_bel (v := lN (k + 1)) (nI_l (by omega)) ?_
          refine lv_ldiv hx hb dX11_ways_34 (lN_ne0 (by omega) (by omega)) ?_
          refine my_bel (v := lN (wv A T (k + 1))) (pk_lDiv (wv_m hA hTA hk) (by omega) (by omega)) ?_
          refine lv_lstore_n (lv' := [(2, .long (lN (wv A T (k + 1)))), (0, .int (nI A)), (1, .int (nI T)), (4, .int (nI (k + 1)))]) hx hb dX11_ways_35 rfl hl (by decide) rfl (fun ls hl => ?_)
          refine lv_iinc (v := nI (k + 1 + 1)) (lv' := [(4, .int (nI (k + 1 + 1))), (2, .long (lN (wv A T (k + 1)))), (0, .int (nI A)), (1, .int (nI T))]) hx hb dX11_ways_36 hl (k := 3) rfl (nI_1 (k + 1)) (by decide) rfl (fun ls hl => ?_)
          refine lv_goto (tgt := 16) hx hb dX11_ways_39 (by decide) ?_
          exact ih (k + 1) _ (hkT) (by omega) (lv_sub hl [2, 3, 1, 0] rfl)
    exact key (T + 1) 0 _ (Nat.zero_le _) (by omega) (lv_sub hl [2, 3, 1, 0] rfl)
  · refine lv_lconst (v := 0) hx hb dX11_ways_9 (by decide) ?_
    exact W.lret (v := 0) hx hb hr (fun t ht hW => ⟨_, rfl, (by rw [show wz A T = 0 from if_neg (fun z => c_6 (nI_le z (by omega)))]; rfl), ht⟩) (fun _ h => absurd h List.not_mem_nil) dX11_ways_10
