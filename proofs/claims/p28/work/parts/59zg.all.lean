/-! ===== may, turn: the answers, by what was told ===== -/
/-- whether a person may serve, is excused -/
def myV (nv : Int32 → Int64) (k : Nat) : Option (List (Int32 × Int32)) → Int32
  | none => if k = 0 then 1 else 0
  | some l => if (ev nv l).headD 0 = 0 then 0 else 1
theorem b1_at {p k : Nat} (hp : p < 32) : bt ((1 : Int32) <<< (nI p &&& 31)) k = (decide (k < 32) && decide (k = p)) := bt_b1 hp
theorem b1_ne {p : Nat} (hp : p < 32) : ¬ (1 : Int32) <<< (nI p &&& 31) = 0 := fun h => by
  have h1 := b1_at (p := p) (k := p) hp
  rw [h, bt_zero, decide_eq_true hp, decide_eq_true (rfl : p = p)] at h1
  cases h1
theorem sO_b1 {Q : Nat → Bool} {n p : Nat} (hp : p < n) (hn : n ≤ 30) : sO (fun r => bt ((1 : Int32) <<< (nI p &&& 31)) r && Q r) n = 0 ↔ Q p = false := by
  have e1 : bt ((1 : Int32) <<< (nI p &&& 31)) p = true := by
    rw [b1_at (by omega), decide_eq_true (show p < 32 by omega), decide_eq_true (rfl : p = p)]; rfl
  constructor
  · intro h
    have h1 := bt_sO (q := fun r => bt ((1 : Int32) <<< (nI p &&& 31)) r && Q r) n p (by omega)
    rw [h, bt_zero, decide_eq_true hp, Bool.true_and] at h1
    have h1 : false = (bt ((1 : Int32) <<< (nI p &&& 31)) p && Q p) := h1
    rw [e1, Bool.true_and] at h1
    exact h1.symm
  · intro h
    apply bt_ext
    intro k hk
    have h2 := bt_sO (q := fun r => bt ((1 : Int32) <<< (nI p &&& 31)) r && Q r) n k (by omega)
    have h2 : bt (sO (fun r => bt ((1 : Int32) <<< (nI p &&& 31)) r && Q r) n) k = (decide (k < n) && (bt ((1 : Int32) <<< (nI p &&& 31)) k && Q k)) := h2
    rw [h2, bt_zero]
    by_cases e : k = p
    · rw [e, h, Bool.and_false, Bool.and_false]
    · rw [b1_at (by omega), decide_eq_false e, Bool.and_false, Bool.false_and, Bool.and_false]
theorem my_y {N : Nat → Int32 → Int64} {nv : Int32 → Int64} {np p k : Nat} {l : List (Int32 × Int32)} (hp : p < np) (hn : np ≤ 30) (e : N p = nv) (h : ¬ sO (fun r => bt ((1 : Int32) <<< (nI p &&& 31)) r && decide (¬ (ev (N r) l).headD 0 = 0)) np = 0) : (1 : Int32) = myV nv k (some l) := by
  have h1 : ¬ decide (¬ (ev (N p) l).headD 0 = 0) = false := fun z => h ((sO_b1 (Q := fun r => decide (¬ (ev (N r) l).headD 0 = 0)) hp hn).mpr z)
  rw [e] at h1
  exact (if_neg (fun z => h1 (decide_eq_false (fun y => y z)))).symm
theorem my_n {N : Nat → Int32 → Int64} {nv : Int32 → Int64} {np p k : Nat} {l : List (Int32 × Int32)} (hp : p < np) (hn : np ≤ 30) (e : N p = nv) (h : sO (fun r => bt ((1 : Int32) <<< (nI p &&& 31)) r && decide (¬ (ev (N r) l).headD 0 = 0)) np = 0) : (0 : Int32) = myV nv k (some l) := by
  have h1 : decide (¬ (ev (N p) l).headD 0 = 0) = false := (sO_b1 (Q := fun r => decide (¬ (ev (N r) l).headD 0 = 0)) hp hn).mp h
  rw [e] at h1
  exact (if_pos (Classical.not_not.mp (of_decide_eq_false h1))).symm
theorem my_r {N : Nat → Int32 → Int64} {nv : Int32 → Int64} {np p k : Nat} {d : Int32} {o : Option (List (Int32 × Int32))} (hp : p < np) (hn : np ≤ 30) (e : N p = nv) (hd : (k = 0 → d = ((1 : Int32) <<< (nI np &&& 31)) - 1) ∧ (¬ k = 0 → d = 0)) : (if bt (whV np N d o) p = true then (1 : Int32) else 0) = myV nv k o := by
  cases o with
  | none =>
    show (if bt d p = true then (1 : Int32) else 0) = if k = 0 then 1 else 0
    by_cases hk : k = 0
    · rw [if_pos hk, hd.1 hk]
      exact if_pos (by rw [bt_low (by omega)]; exact decide_eq_true hp)
    · rw [if_neg hk, hd.2 hk]
      exact if_neg (by rw [bt_zero]; decide)
  | some l =>
    show (if bt (sO (fun r => decide (¬ (ev (N r) l).headD 0 = 0)) np) p = true then (1 : Int32) else 0) = if (ev nv l).headD 0 = 0 then 0 else 1
    rw [bt_sO np p (by omega), decide_eq_true hp, Bool.true_and, e]
    by_cases h : (ev nv l).headD 0 = 0
    · rw [if_pos h]; exact if_neg (fun z => absurd h (of_decide_eq_true z))
    · rw [if_neg h]; exact if_pos (decide_eq_true h)
/-! whose turn it is -/
def tnC (ah : Nat → Nat → Bool) (n : Nat) : Option Nat → Bool
  | none => true
  | some r => ah n r
def tnF (Q : Nat → Bool) (ah : Nat → Nat → Bool) : Nat → Option Nat
  | 0 => none
  | n + 1 => if (Q n && tnC ah n (tnF Q ah n)) = true then some n else tnF Q ah n
theorem tnF_y {Q : Nat → Bool} {ah : Nat → Nat → Bool} {n : Nat} {o : Option Nat} (h : tnF Q ah n = o) (hq : Q n = true) (hc : tnC ah n o = true) : tnF Q ah (n + 1) = some n := by
  show (if (Q n && tnC ah n (tnF Q ah n)) = true then some n else tnF Q ah n) = some n
  rw [h, hq, hc]; rfl
theorem tnF_n {Q : Nat → Bool} {ah : Nat → Nat → Bool} {n : Nat} {o : Option Nat} (h : tnF Q ah n = o) (hc : ¬ (Q n = true ∧ tnC ah n o = true)) : tnF Q ah (n + 1) = o := by
  show (if (Q n && tnC ah n (tnF Q ah n)) = true then some n else tnF Q ah n) = o
  rw [h]
  exact if_neg (fun z => hc ((Bool.and_eq_true _ _).mp z))
theorem tnF_congr {Q Q' : Nat → Bool} {ah : Nat → Nat → Bool} : ∀ n, (∀ i, i < n → Q i = Q' i) → tnF Q ah n = tnF Q' ah n := by
  intro n
  induction n with
  | zero => intro _; rfl
  | succ n ih =>
    intro h
    show (if (Q n && tnC ah n (tnF Q ah n)) = true then some n else tnF Q ah n) = (if (Q' n && tnC ah n (tnF Q' ah n)) = true then some n else tnF Q' ah n)
    rw [ih (fun i hi => h i (by omega)), h n (by omega)]
/-- who is ahead of whom -/
def ahB (T : Nat → Nat → Int32) (J : Nat → Int32) (q : Int32) (nt p r : Nat) : Bool := decide (satN T J q p nt < satN T J q r nt ∨ (satN T J q p nt = satN T J q r nt ∧ sinV T J q r nt < sinV T J q p nt))
theorem ahB_iff {T : Nat → Nat → Int32} {J : Nat → Int32} {q : Int32} {nt p r : Nat} : ahB T J q nt p r = true ↔ (satN T J q p nt < satN T J q r nt ∨ (satN T J q p nt = satN T J q r nt ∧ sinV T J q r nt < sinV T J q p nt)) := decide_eq_true_iff
theorem ahB_congr {T T' : Nat → Nat → Int32} {J J' : Nat → Int32} {q : Int32} {nt : Nat} (hT : ∀ o, o < nt → T o 0 = T' o 0) (hJ : ∀ o, o < nt → J o = J' o) : ahB T J q nt = ahB T' J' q nt := by
  funext p r
  unfold ahB
  obtain ⟨e1, e2⟩ := sat_congr (T := T) (T' := T') (J := J) (J' := J') (day := q) (p := p) nt hT hJ
  obtain ⟨e3, e4⟩ := sat_congr (T := T) (T' := T') (J := J) (J' := J') (day := q) (p := r) nt hT hJ
  rw [e1, e2, e3, e4]
def tuV (np nt : Nat) (P T : Nat → Nat → Int32) (J : Nat → Int32) (q am : Int32) (o : Option (List (Int32 × Int32))) : Int32 := fo (tnF (fun i => bt (trV np (nvF P T J q nt) am am o) i) (ahB T J q nt) np)
theorem tuV_congr {np nt : Nat} {P P' T T' : Nat → Nat → Int32} {J J' : Nat → Int32} {q am : Int32} {o : Option (List (Int32 × Int32))} (hP : ∀ p, p < np → ∀ c, c < 4 → P p c = P' p c) (hT : ∀ o, o < nt → T o 0 = T' o 0) (hJ : ∀ o, o < nt → J o = J' o) : tuV np nt P T J q am o = tuV np nt P' T' J' q am o := by
  unfold tuV
  rw [trV_congr (nv := nvF P T J q nt) (nv' := nvF P' T' J' q nt) (fun p hp => nvF_congr (hP p hp) hT hJ), ahB_congr (T := T) (T' := T') (J := J) (J' := J') hT hJ]
theorem cp_lt {a b : Nat} (ha : a < 2 ^ 31) (hb : b < 2 ^ 31) : (if nI a < nI b then (-1 : Int32) else if nI a = nI b then 0 else 1) < 0 ↔ a < b := by
  by_cases h : nI a < nI b
  · rw [if_pos h]
    exact ⟨fun _ => (nI_ltI ha hb).mp h, fun _ => by decide⟩
  · rw [if_neg h]
    refine ⟨fun z => ?_, fun z => absurd ((nI_ltI ha hb).mpr z) h⟩
    by_cases e : nI a = nI b
    · rw [if_pos e] at z; exact absurd z (by decide)
    · rw [if_neg e] at z; exact absurd z (by decide)
theorem cp_eq {a b : Nat} (ha : a < 2 ^ 31) (hb : b < 2 ^ 31) : (if nI a < nI b then (-1 : Int32) else if nI a = nI b then 0 else 1) = 0 ↔ a = b := by
  by_cases h : nI a < nI b
  · rw [if_pos h]
    refine ⟨fun z => absurd z (by decide), fun z => ?_⟩
    have h9 := (nI_ltI ha hb).mp h
    omega
  · rw [if_neg h]
    by_cases e : nI a = nI b
    · rw [if_pos e]
      exact ⟨fun _ => (nI_eq ha hb).mp e, fun _ => rfl⟩
    · rw [if_neg e]
      exact ⟨fun z => absurd z (by decide), fun z => absurd (congrArg nI z) e⟩
/-- the reference looks at the parish in its loop -/
theorem tq_eq {np : Nat} {nv : Nat → Int32 → Int64} {rl a : Int32} {P : Nat → Nat → Int32} {o : Option (List (Int32 × Int32))} (hn : np ≤ 30) {i : Nat} (hi : i < np) : (bt (rl &&& whV np nv (((1 : Int32) <<< (nI np &&& 31)) - 1) o) i && decide (P i 0 = a)) = bt (trV np nv (rl &&& sO (fun i => decide (P i 0 = a)) np) (rl &&& sO (fun i => decide (P i 0 = a)) np) o) i := by
  have hp : bt (sO (fun i => decide (P i 0 = a)) np) i = decide (P i 0 = a) := by
    rw [bt_sO np i (by omega), decide_eq_true hi, Bool.true_and]
  cases o with
  | none =>
    show (bt (rl &&& (((1 : Int32) <<< (nI np &&& 31)) - 1)) i && decide (P i 0 = a)) = bt (rl &&& sO (fun i => decide (P i 0 = a)) np) i
    rw [bt_and, bt_and, hp, bt_low (by omega), decide_eq_true hi, Bool.and_true]
  | some l =>
    show (bt (rl &&& sO (fun p => decide (¬ (ev (nv p) l).headD 0 = 0)) np) i && decide (P i 0 = a)) = bt (sO (fun p => bt (rl &&& sO (fun i => decide (P i 0 = a)) np) p && decide (¬ (ev (nv p) l).headD 0 = 0)) np) i
    rw [bt_sO (q := fun p => bt (rl &&& sO (fun i => decide (P i 0 = a)) np) p && decide (¬ (ev (nv p) l).headD 0 = 0)) np i (by omega), bt_and, bt_sO (q := fun p => decide (¬ (ev (nv p) l).headD 0 = 0)) np i (by omega), bt_and, hp, decide_eq_true hi, Bool.true_and, Bool.true_and]
    cases bt rl i <;> cases decide (P i 0 = a) <;> cases decide (¬ (ev (nv i) l).headD 0 = 0) <;> rfl
set_option maxHeartbeats 4000000 in
set_option maxRecDepth 100000 in
theorem s_compareE (l : Launch) (G : gW) (g : Nat → Nat) (hg : gOK g) (f : Nat → va_E) (n : Int32) (q : Int32)   : Met l yJ6_compare_7cf53 (wsT yJ6_compare_7cf53 cJ6_compare_7cf53 2 (some .int)) ({ frames := 0, cells := 0, slots := 0, locals := 0 }) (bP G g f [.int n, .int q]) (rQi (fun z9 => z9 = (if n < q then (-1 : Int32) else if n = q then 0 else 1))) 0 0 fr0 := by
  refine Met.ofW (cc := cJ6_compare_7cf53) (maxL := 2) (ret := (some .int)) (by decide) rfl ?_
  intro p e s m args below meth c s₁ B hml hv
  obtain ⟨rfl, hP, hG⟩ := hv
  have hx := B.exec
  have hb := B.bytes
  have hr := B.returns
  have hts := my_hts (atoms_spec (ws := wsT yJ6_compare_7cf53 cJ6_compare_7cf53 2 (some .int)) B.pre)
  have hown : s.vm.findClass RJ6 = some m.cls := findClass_of_methodNamed B.named
  have hlocks := B.notSynchronized
  have hl := lv_entry ([.int n, .int q]) (n := 2) (Nat.le_of_ble_eq_true rfl)
  rw [lg_entry_eq]
  generalize (lg_sl ([.int n, .int q]) ++ List.replicate (2 - (lg_sl ([.int n, .int q])).length) Slot.unset).toArray = ls at hl ⊢
  have hl : lv_has ls 2 [(0, .int n), (1, .int q)] := hl
  refine W_q8 (fun Q9 hQ9 => ?_)
  refine lv_iload_n hx hb dJ6_compare_7cf53_0 rfl (lv_at hl 0 rfl) ?_
  refine lv_iload_n hx hb dJ6_compare_7cf53_1 rfl (lv_at hl 1 rfl) ?_
  refine lv_icmp_ge (tgt := 9) hx hb dJ6_compare_7cf53_2 (by decide) (fun c_2 => ?_) (fun c_2 => ?_)
  · refine lv_iload_n hx hb dJ6_compare_7cf53_9 rfl (lv_at hl 0 rfl) ?_
    refine lv_iload_n hx hb dJ6_compare_7cf53_10 rfl (lv_at hl 1 rfl) ?_
    refine lv_icmp_ne (tgt := 18) hx hb dJ6_compare_7cf53_11 (by decide) (fun c_11 => ?_) (fun c_11 => ?_)
    · refine lv_iconst (v := 1) hx hb dJ6_compare_7cf53_18 (by decide) ?_
      refine W_q9 hQ9 ?_
      exact W.iret (v := 1) hx hb hr (fun _ hT9 _ => ⟨_, rfl, (by rw [if_neg (Int32.not_lt.mpr c_2), if_neg c_11]), hT9⟩) (fun _ h => absurd h List.not_mem_nil) dJ6_compare_7cf53_19
    · refine lv_iconst (v := 0) hx hb dJ6_compare_7cf53_14 (by decide) ?_
      refine lv_goto (tgt := 19) hx hb dJ6_compare_7cf53_15 (by decide) ?_
      refine W_q9 hQ9 ?_
      exact W.iret (v := 0) hx hb hr (fun _ hT9 _ => ⟨_, rfl, (by rw [if_neg (Int32.not_lt.mpr c_2), if_pos c_11]), hT9⟩) (fun _ h => absurd h List.not_mem_nil) dJ6_compare_7cf53_19
  · refine lv_iconst (v := (-1)) hx hb dJ6_compare_7cf53_5 (by decide) ?_
    refine lv_goto (tgt := 19) hx hb dJ6_compare_7cf53_6 (by decide) ?_
    refine W_q9 hQ9 ?_
    exact W.iret (v := (-1)) hx hb hr (fun _ hT9 _ => ⟨_, rfl, ((if_pos (Int32.not_le.mp c_2)).symm), hT9⟩) (fun _ h => absurd h List.not_mem_nil) dJ6_compare_7cf53_19
set_option maxHeartbeats 4000000 in
set_option maxRecDepth 100000 in
theorem u_isAheadE (l : Launch) (G : gW) (g : Nat → Nat) (hg : gOK g) (f : Nat → va_E) (se : Nat) (hf : Nat → Option Nat) (pay : Int32) (fine : Int32) (nt : Nat) (ct : Nat → Int32) (sw : Nat → Int32) (p1 : Nat) (r1 : Nat) (q : Int32) (hctc : f 1 = eO 1 [.ref (g 36), .ref (g 12), .ref (g 13), .ref (g 15), .int (nI se)]) (hhs : f 12 = eA G 4 10 hf) (hbk : f 36 = eO 0 [.ref (g 37), .ref (g 39), .ref (g 41), .ref (g 43), .ref (g 45), .ref (g 47), .ref (g 112), .int pay, .int fine]) (htr : f 45 = eO 5 [.int (nI 10), .int (nI 70), .ref (g 46), .int (nI nt)]) (hct : f 46 = eI G (10 * 70) ct) (hse : se ≤ 10) (hhf : ∀ i, i < 10 → hf i = some (g (2 * i + 16))) (hnt : nt ≤ 10) (hZ : ∀ i, i < 10 → okZ G g f (2 * i + 16) (sw i)) (hp1 : p1 < 30) (hr1 : r1 < 30) : Met l yX1_isAhead (wsT yX1_isAhead cX1_isAhead 5 (some .boolean)) ({ frames := 2, cells := 0, slots := 0, locals := 48 }) (bP G g f [.ref (g 1), .int (nI p1), .int (nI r1), .int q]) (rQi (fun z9 => z9 = b2 (ahB (fun t c => ct (70 * t + c)) sw q nt p1 r1 = true))) 0 0 fr0 := by
  refine Met.ofW (cc := cX1_isAhead) (maxL := 5) (ret := (some .boolean)) (by decide) rfl ?_
  intro p e s m args below meth c s₁ B hml hv
  obtain ⟨rfl, hP, hG⟩ := hv
  have hx := B.exec
  have hb := B.bytes
  have hr := B.returns
  have hts := my_hts (atoms_spec (ws := wsT yX1_isAhead cX1_isAhead 5 (some .boolean)) B.pre)
  have hown : s.vm.findClass RX1 = some m.cls := findClass_of_methodNamed B.named
  have hlocks := B.notSynchronized
  have hl := lv_entry ([.ref (g 1), .int (nI p1), .int (nI r1), .int q]) (n := 5) (Nat.le_of_ble_eq_true rfl)
  rw [lg_entry_eq]
  generalize (lg_sl ([.ref (g 1), .int (nI p1), .int (nI r1), .int q]) ++ List.replicate (5 - (lg_sl ([.ref (g 1), .int (nI p1), .int (nI r1), .int q])).length) Slot.unset).toArray = ls at hl ⊢
  have hl : lv_has ls 5 [(0, .ref (g 1)), (1, .int (nI p1)), (2, .int (nI r1)), (3, .int q)] := hl
  refine W_q8 (fun Q9 hQ9 => ?_)
  have hsa := satN_le (T := (fun t c => ct (70 * t + c))) (J := sw) (day := q) (p := p1) nt
  have hsb := satN_le (T := (fun t c => ct (70 * t + c))) (J := sw) (day := q) (p := r1) nt
  refine lv_aload_n hx hb dX1_isAhead_0 rfl (lv_at hl 0 rfl) ?_
  refine lv_iload_n hx hb dX1_isAhead_1 rfl (lv_at hl 1 rfl) ?_
  refine lv_iload_n hx hb dX1_isAhead_2 rfl (lv_at hl 3 rfl) ?_
  refine rd_calli (va_runV (As := [.int (nI p1), .int q]) (rest := []) ⟨hx, hb, hml, hown, hts⟩ (u_timesSatE l G g hg f se hf pay fine nt ct sw p1 q hctc hhs hbk htr hct (by first | assumption | omega | decide) (by first | assumption | omega | decide) (by first | assumption | omega | decide) (by first | assumption | omega | decide) (by first | assumption | omega | decide)) (my_cwV hts ok_X1_timesSat w_447 rfl rfl ⟨Nat.le_of_ble_eq_true rfl, Nat.le_of_ble_eq_true rfl⟩) ⟨bP.blind, va_recv hG.1 hP (ci := 1) (q0 := 1) rfl (wl_at (by decide) hctc), fun U hU hW => ⟨rfl, by rw [hU]; exact hP, kG.warm hW hG⟩⟩ rfl rfl hl.1 rfl (lv_room (Nat.le_of_ble_eq_true rfl)) dX1_isAhead_3 ⟨Nat.le_of_ble_eq_true rfl, Nat.le_of_ble_eq_true rfl⟩) (fun r hr9 => ?_)
  subst hr9
  refine lv_aload_n hx hb dX1_isAhead_6 rfl (lv_at hl 0 rfl) ?_
  refine lv_iload_n hx hb dX1_isAhead_7 rfl (lv_at hl 2 rfl) ?_
  refine lv_iload_n hx hb dX1_isAhead_8 rfl (lv_at hl 3 rfl) ?_
  refine rd_calli (va_runV (As := [.int (nI r1), .int q]) (rest := [.int (nI (satN (fun t c => ct (70 * t + c)) sw q p1 nt))]) ⟨hx, hb, hml, hown, hts⟩ (u_timesSatE l G g hg f se hf pay fine nt ct sw r1 q hctc hhs hbk htr hct (by first | assumption | omega | decide) (by first | assumption | omega | decide) (by first | assumption | omega | decide) (by first | assumption | omega | decide) (by first | assumption | omega | decide)) (my_cwV hts ok_X1_timesSat w_447 rfl rfl ⟨Nat.le_of_ble_eq_true rfl, Nat.le_of_ble_eq_true rfl⟩) ⟨bP.blind, va_recv hG.1 hP (ci := 1) (q0 := 1) rfl (wl_at (by decide) hctc), fun U hU hW => ⟨rfl, by rw [hU]; exact hP, kG.warm hW hG⟩⟩ rfl rfl hl.1 rfl (lv_room (Nat.le_of_ble_eq_true rfl)) dX1_isAhead_9 ⟨Nat.le_of_ble_eq_true rfl, Nat.le_of_ble_eq_true rfl⟩) (fun r hr9 => ?_)
  subst hr9
  refine rd_calli (va_runS (As := [.int (nI (satN (fun t c => ct (70 * t + c)) sw q p1 nt)), .int (nI (satN (fun t c => ct (70 * t + c)) sw q r1 nt))]) (rest := []) ⟨hx, hb, hml, hown, hts⟩ (s_compareE l G g hg f (nI (satN (fun t c => ct (70 * t + c)) sw q p1 nt)) (nI (satN (fun t c => ct (70 * t + c)) sw q r1 nt))  ) (my_cwS hts ok_J6_compare_7cf53 w_883 rfl rfl ⟨Nat.le_of_ble_eq_true rfl, Nat.le_of_ble_eq_true rfl⟩) ⟨bP.blind, fun U hU hW => ⟨rfl, by rw [hU]; exact hP, kG.warm hW hG⟩⟩ rfl rfl hl.1 rfl (lv_room (Nat.le_of_ble_eq_true rfl)) dX1_isAhead_12 ⟨Nat.le_of_ble_eq_true rfl, Nat.le_of_ble_eq_true rfl⟩) (fun r hr9 => ?_)
  subst hr9
  refine lv_istore (lv' := [(4, .int (if (nI (satN (fun t c => ct (70 * t + c)) sw q p1 nt)) < (nI (satN (fun t c => ct (70 * t + c)) sw q r1 nt)) then (-1 : Int32) else if (nI (satN (fun t c => ct (70 * t + c)) sw q p1 nt)) = (nI (satN (fun t c => ct (70 * t + c)) sw q r1 nt)) then 0 else 1)), (0, .ref (g 1)), (1, .int (nI p1)), (2, .int (nI r1)), (3, .int q)]) hx hb dX1_isAhead_15 hl (by decide) rfl (fun ls hl => ?_)
  refine lv_iload hx hb dX1_isAhead_17 (lv_at hl 0 rfl) ?_
  refine lv_if_lt (tgt := 42) hx hb dX1_isAhead_19 (by decide) (fun c_19 => ?_) (fun c_19 => ?_)
  · refine lv_iconst (v := 1) hx hb dX1_isAhead_42 (by decide) ?_
    refine lv_goto (tgt := 47) hx hb dX1_isAhead_43 (by decide) ?_
    refine W_q9 hQ9 ?_
    exact W.zret (v := 1) hx hb hr (rfl) (fun _ hT9 _ => ⟨_, rfl, ((b2_t (P := ahB (fun t c => ct (70 * t + c)) sw q nt p1 r1 = true) (ahB_iff.mpr (Or.inl ((cp_lt (a := (satN (fun t c => ct (70 * t + c)) sw q p1 nt)) (b := (satN (fun t c => ct (70 * t + c)) sw q r1 nt)) (by omega) (by omega)).mp c_19)))).symm), hT9⟩) (fun _ h => absurd h List.not_mem_nil) dX1_isAhead_47
  · refine lv_iload hx hb dX1_isAhead_22 (lv_at hl 0 rfl) ?_
    refine lv_if_ne (tgt := 46) hx hb dX1_isAhead_24 (by decide) (fun c_24 => ?_) (fun c_24 => ?_)
    · refine lv_iconst (v := 0) hx hb dX1_isAhead_46 (by decide) ?_
      refine W_q9 hQ9 ?_
      exact W.zret (v := 0) hx hb hr (rfl) (fun _ hT9 _ => ⟨_, rfl, ((b2_f (P := ahB (fun t c => ct (70 * t + c)) sw q nt p1 r1 = true) (fun z => (ahB_iff.mp z).elim (fun h => c_19 ((cp_lt (a := (satN (fun t c => ct (70 * t + c)) sw q p1 nt)) (b := (satN (fun t c => ct (70 * t + c)) sw q r1 nt)) (by omega) (by omega)).mpr h)) (fun h => c_24 ((cp_eq (a := (satN (fun t c => ct (70 * t + c)) sw q p1 nt)) (b := (satN (fun t c => ct (70 * t + c)) sw q r1 nt)) (by omega) (by omega)).mpr h.1)))).symm), hT9⟩) (fun _ h => absurd h List.not_mem_nil) dX1_isAhead_47
    · refine lv_aload_n hx hb dX1_isAhead_27 rfl (lv_at hl 1 rfl) ?_
      refine lv_iload_n hx hb dX1_isAhead_28 rfl (lv_at hl 2 rfl) ?_
      refine lv_iload_n hx hb dX1_isAhead_29 rfl (lv_at hl 4 rfl) ?_
      refine rd_calli (va_runV (As := [.int (nI p1), .int q]) (rest := []) ⟨hx, hb, hml, hown, hts⟩ (u_yearsSinceE l G g hg f se hf pay fine nt ct sw p1 q hctc hhs hbk htr hct (by first | assumption | omega | decide) (by first | assumption | omega | decide) (by first | assumption | omega | decide) (by first | assumption | omega | decide) (by first | assumption | omega | decide)) (my_cwV hts ok_X1_yearsSince w_451 rfl rfl ⟨Nat.le_of_ble_eq_true rfl, Nat.le_of_ble_eq_true rfl⟩) ⟨bP.blind, va_recv hG.1 hP (ci := 1) (q0 := 1) rfl (wl_at (by decide) hctc), fun U hU hW => ⟨rfl, by rw [hU]; exact hP, kG.warm hW hG⟩⟩ rfl rfl hl.1 rfl (lv_room (Nat.le_of_ble_eq_true rfl)) dX1_isAhead_30 ⟨Nat.le_of_ble_eq_true rfl, Nat.le_of_ble_eq_true rfl⟩) (fun r hr9 => ?_)
      subst hr9
      refine lv_aload_n hx hb dX1_isAhead_33 rfl (lv_at hl 1 rfl) ?_
      refine lv_iload_n hx hb dX1_isAhead_34 rfl (lv_at hl 3 rfl) ?_
      refine lv_iload_n hx hb dX1_isAhead_35 rfl (lv_at hl 4 rfl) ?_
      refine rd_calli (va_runV (As := [.int (nI r1), .int q]) (rest := [.int (sinV (fun t c => ct (70 * t + c)) sw q p1 nt)]) ⟨hx, hb, hml, hown, hts⟩ (u_yearsSinceE l G g hg f se hf pay fine nt ct sw r1 q hctc hhs hbk htr hct (by first | assumption | omega | decide) (by first | assumption | omega | decide) (by first | assumption | omega | decide) (by first | assumption | omega | decide) (by first | assumption | omega | decide)) (my_cwV hts ok_X1_yearsSince w_451 rfl rfl ⟨Nat.le_of_ble_eq_true rfl, Nat.le_of_ble_eq_true rfl⟩) ⟨bP.blind, va_recv hG.1 hP (ci := 1) (q0 := 1) rfl (wl_at (by decide) hctc), fun U hU hW => ⟨rfl, by rw [hU]; exact hP, kG.warm hW hG⟩⟩ rfl rfl hl.1 rfl (lv_room (Nat.le_of_ble_eq_true rfl)) dX1_isAhead_36 ⟨Nat.le_of_ble_eq_true rfl, Nat.le_of_ble_eq_true rfl⟩) (fun r hr9 => ?_)
      subst hr9
      refine lv_icmp_le (tgt := 46) hx hb dX1_isAhead_39 (by decide) (fun c_39 => ?_) (fun c_39 => ?_)
      · refine lv_iconst (v := 0) hx hb dX1_isAhead_46 (by decide) ?_
        refine W_q9 hQ9 ?_
        exact W.zret (v := 0) hx hb hr (rfl) (fun _ hT9 _ => ⟨_, rfl, ((b2_f (P := ahB (fun t c => ct (70 * t + c)) sw q nt p1 r1 = true) (fun z => (ahB_iff.mp z).elim (fun h => c_19 ((cp_lt (a := (satN (fun t c => ct (70 * t + c)) sw q p1 nt)) (b := (satN (fun t c => ct (70 * t + c)) sw q r1 nt)) (by omega) (by omega)).mpr h)) (fun h => absurd h.2 (Int32.not_lt.mpr c_39)))).symm), hT9⟩) (fun _ h => absurd h List.not_mem_nil) dX1_isAhead_47
      · refine lv_iconst (v := 1) hx hb dX1_isAhead_42 (by decide) ?_
        refine lv_goto (tgt := 47) hx hb dX1_isAhead_43 (by decide) ?_
        refine W_q9 hQ9 ?_
        exact W.zret (v := 1) hx hb hr (rfl) (fun _ hT9 _ => ⟨_, rfl, ((b2_t (P := ahB (fun t c => ct (70 * t + c)) sw q nt p1 r1 = true) (ahB_iff.mpr (Or.inr ⟨(cp_eq (a := (satN (fun t c => ct (70 * t + c)) sw q p1 nt)) (b := (satN (fun t c => ct (70 * t + c)) sw q r1 nt)) (by omega) (by omega)).mp c_24, Int32.not_le.mp c_39⟩))).symm), hT9⟩) (fun _ h => absurd h List.not_mem_nil) dX1_isAhead_47
set_option maxHeartbeats 4000000 in
set_option maxRecDepth 100000 in
theorem u_nextE (l : Launch) (G : gW) (g : Nat → Nat) (hg : gOK g) (f : Nat → va_E) (se : Nat) (hf : Nat → Option Nat) (pay : Int32) (fine : Int32) (nt : Nat) (ct : Nat → Int32) (np : Nat) (dp : Nat → Int32) (sw : Nat → Int32) (q : Int32) (w : Int32) (hctc : f 1 = eO 1 [.ref (g 36), .ref (g 12), .ref (g 13), .ref (g 15), .int (nI se)]) (hhs : f 12 = eA G 4 10 hf) (hbk : f 36 = eO 0 [.ref (g 37), .ref (g 39), .ref (g 41), .ref (g 43), .ref (g 45), .ref (g 47), .ref (g 112), .int pay, .int fine]) (htr : f 45 = eO 5 [.int (nI 10), .int (nI 70), .ref (g 46), .int (nI nt)]) (hct : f 46 = eI G (10 * 70) ct) (hpr : f 37 = eO 5 [.int (nI 30), .int (nI 4), .ref (g 38), .int (nI np)]) (hpd : f 38 = eI G (30 * 4) dp) (hse : se ≤ 10) (hhf : ∀ i, i < 10 → hf i = some (g (2 * i + 16))) (hH : ∀ i, i < 10 → okH G g f (2 * i + 16)) (hnt : nt ≤ 10) (hnp : np ≤ 30) (hZ : ∀ i, i < 10 → okZ G g f (2 * i + 16) (sw i)) : Met l yX1_nextInTurn (wsT yX1_nextInTurn cX1_nextInTurn 5 (some .int)) ({ frames := 3, cells := 0, slots := 0, locals := 72 }) (bP G g f [.ref (g 1), .int w, .int q]) (rQi (fun z9 => z9 = fo (tnF (fun i => bt w i) (ahB (fun t c => ct (70 * t + c)) sw q nt) np))) 0 0 fr0 := by
  refine Met.ofW (cc := cX1_nextInTurn) (maxL := 5) (ret := (some .int)) (by decide) rfl ?_
  intro p e s m args below meth c s₁ B hml hv
  obtain ⟨rfl, hP, hG⟩ := hv
  have hx := B.exec
  have hb := B.bytes
  have hr := B.returns
  have hts := my_hts (atoms_spec (ws := wsT yX1_nextInTurn cX1_nextInTurn 5 (some .int)) B.pre)
  have hown : s.vm.findClass RX1 = some m.cls := findClass_of_methodNamed B.named
  have hlocks := B.notSynchronized
  have hl := lv_entry ([.ref (g 1), .int w, .int q]) (n := 5) (Nat.le_of_ble_eq_true rfl)
  rw [lg_entry_eq]
  generalize (lg_sl ([.ref (g 1), .int w, .int q]) ++ List.replicate (5 - (lg_sl ([.ref (g 1), .int w, .int q])).length) Slot.unset).toArray = ls at hl ⊢
  have hl : lv_has ls 5 [(0, .ref (g 1)), (1, .int w), (2, .int q)] := hl
  refine W_q8 (fun Q9 hQ9 => ?_)
  refine lv_iconst (v := (-1)) hx hb dX1_nextInTurn_0 (by decide) ?_
  refine lv_istore_n (lv' := [(3, .int (-1)), (0, .ref (g 1)), (1, .int w), (2, .int q)]) hx hb dX1_nextInTurn_1 rfl hl (by decide) rfl (fun ls hl => ?_)
  refine lv_iconst (v := 0) hx hb dX1_nextInTurn_2 (by decide) ?_
  refine lv_istore (lv' := [(4, .int 0), (3, .int (-1)), (0, .ref (g 1)), (1, .int w), (2, .int q)]) hx hb dX1_nextInTurn_3 hl (by decide) rfl (fun ls hl => ?_)
  have key1 : ∀ (n9_1 : Nat) (o1 : Option Nat) (i : Nat) (ls : Array Slot), (i ≤ np) → (∀ z, o1 = some z → z < np) → (tnF (fun i => bt w i) (ahB (fun t c => ct (70 * t + c)) sw q nt) i = o1) → np - i < n9_1 → lv_has ls 5 [(0, .ref (g 1)), (1, .int w), (2, .int q), (3, .int (fo o1)), (4, .int (nI i))] → W p l e (headSpec (wsT yX1_nextInTurn cX1_nextInTurn 5 (some .int)) ({ frames := 3, cells := 0, slots := 0, locals := 72 })).room s m ([.ref (g 1), .int w, .int q] : List Value).toArray below meth c s.heap [] 0 0 Q9 (F0 m 5 ls []) := by
    intro n9_1
    induction n9_1 with
    | zero => intro o1 i ls hi ho hB hn9_1; exact absurd hn9_1 (Nat.not_lt_zero _)
    | succ n9_1 ih_1 =>
      intro o1 i ls hi ho hB hn9_1 hl
      refine lv_iload hx hb dX1_nextInTurn_5 (lv_at hl 4 rfl) ?_
      refine lv_aload_n hx hb dX1_nextInTurn_7 rfl (lv_at hl 0 rfl) ?_
      refine va_get (D := G.1) (ci := 1) (v := .ref (g 36)) (C := RX1) (T := TX1) (N := 5) hx hb hts inlX1 hown hG.1 hP 1 (wl_at (by decide) hctc) rfl 0 (by decide) (hts (.fieldLink RX1 12 "SwornLists$Court" "book" "LSwornLists$Book;") w_40) (fun _ h9 => h9) rfl dX1_nextInTurn_8 ?_
      refine va_getN (D := G.1) (ci := 0) (v := .ref (g 37)) (C := RX0) (T := TX0) (N := 9) (host := RX10) hx hb hts inlX0 hown hG.1 hP 36 (wl_at (by decide) hbk) rfl 0 (by decide) (va_Nw.use rfl (hG.2.1 (.fieldLinkNest RX1 110 RX0 "people" "LSwornLists$Rows;" RX10) (List.mem_of_getElem? (i := 1) rfl))) (fun _ h9 => h9) rfl dX1_nextInTurn_11 ?_
      refine rd_calli (va_runV (As := []) (rest := [.int (nI i)]) ⟨hx, hb, hml, hown, hts⟩ (r_size l G g hg f 37 30 4 np hpr (by first | assumption | omega | decide) (by first | assumption | omega | decide) (by first | assumption | omega | decide) (by first | assumption | omega | decide)) (my_cwV hts ok_X5_size w_388 rfl rfl ⟨Nat.le_of_ble_eq_true rfl, Nat.le_of_ble_eq_true rfl⟩) ⟨bP.blind, va_recv hG.1 hP (ci := 5) (q0 := 37) rfl (wl_at (by decide) hpr), fun U hU hW => ⟨rfl, by rw [hU]; exact hP, kG.warm hW hG⟩⟩ rfl rfl hl.1 rfl (lv_room (Nat.le_of_ble_eq_true rfl)) dX1_nextInTurn_14 ⟨Nat.le_of_ble_eq_true rfl, Nat.le_of_ble_eq_true rfl⟩) (fun r hr9 => ?_)
      subst hr9
      refine lv_icmp_ge (tgt := 54) hx hb dX1_nextInTurn_17 (by decide) (fun c_17 => ?_) (fun c_17 => ?_)
      · have hin : i = np := by
          have h9 := (nI_leI (by omega) (by omega)).mp c_17
          omega
        rw [hin] at hB
        refine lv_iload_n hx hb dX1_nextInTurn_54 rfl (lv_at hl 3 rfl) ?_
        refine W_q9 hQ9 ?_
        exact W.iret (v := fo o1) hx hb hr (fun _ hT9 _ => ⟨_, rfl, ((congrArg fo hB).symm), hT9⟩) (fun _ h => absurd h List.not_mem_nil) dX1_nextInTurn_55
      · have hi9 : i < np := Nat.not_le.mp (fun z => c_17 (nI_le z (by omega)))
        refine lv_iload_n hx hb dX1_nextInTurn_20 rfl (lv_at hl 1 rfl) ?_
        refine lv_iload hx hb dX1_nextInTurn_21 (lv_at hl 4 rfl) ?_
        refine rd_calli (va_runSN (As := [.int w, .int (nI i)]) (rest := []) ⟨hx, hb, hml, hown, hts⟩ (s_hasBit l G g hg f w (nI i)  ) (⟨my_cn hts ok_X10_hasBit.1 (hG.2.1 (.methodLinkNest RX1 113 yX10_hasBit RX10) (List.mem_of_getElem? (i := 31) rfl)) rfl rfl ⟨Nat.le_of_ble_eq_true rfl, Nat.le_of_ble_eq_true rfl⟩, hts _ ok_X10_hasBit.2.2.1, trivial⟩) ⟨bP.blind, fun U hU hW => ⟨rfl, by rw [hU]; exact hP, kG.warm hW hG⟩⟩ rfl rfl hl.1 rfl (lv_room (Nat.le_of_ble_eq_true rfl)) dX1_nextInTurn_23 ⟨Nat.le_of_ble_eq_true rfl, Nat.le_of_ble_eq_true rfl⟩) (fun r hr9 => ?_)
        subst hr9
        refine my_ifeq (tgt := 48) hx hb dX1_nextInTurn_26 (by decide) (fun c_26 => ?_) (fun c_26 => ?_)
        · refine lv_iinc (v := nI (i + 1)) (lv' := [(4, .int (nI (i + 1))), (0, .ref (g 1)), (1, .int w), (2, .int q), (3, .int (fo o1))]) hx hb dX1_nextInTurn_48 hl (k := 4) rfl (nI_1 i) (by decide) rfl (fun ls hl => ?_)
          refine lv_goto (tgt := 5) hx hb dX1_nextInTurn_51 (by decide) ?_
          exact ih_1 o1 (i + 1) _ (by omega) (ho) (tnF_n (Q := (fun i => bt w i)) (ah := (ahB (fun t c => ct (70 * t + c)) sw q nt)) hB (fun z => c_26 (by rw [hbt_bt (by omega)]; exact z.1))) (by omega) (lv_sub hl [1, 2, 3, 4, 0] rfl)
        · refine lv_iload_n hx hb dX1_nextInTurn_29 rfl (lv_at hl 3 rfl) ?_
          refine lv_iconst (v := (-1)) hx hb dX1_nextInTurn_30 (by decide) ?_
          refine lv_icmp_eq (tgt := 45) hx hb dX1_nextInTurn_31 (by decide) (fun c_31 => ?_) (fun c_31 => ?_)
          · refine lv_iload hx hb dX1_nextInTurn_45 (lv_at hl 4 rfl) ?_
            refine lv_istore_n (lv' := [(3, .int (nI i)), (0, .ref (g 1)), (1, .int w), (2, .int q), (4, .int (nI i))]) hx hb dX1_nextInTurn_47 rfl hl (by decide) rfl (fun ls hl => ?_)
            refine lv_iinc (v := nI (i + 1)) (lv' := [(4, .int (nI (i + 1))), (3, .int (nI i)), (0, .ref (g 1)), (1, .int w), (2, .int q)]) hx hb dX1_nextInTurn_48 hl (k := 4) rfl (nI_1 i) (by decide) rfl (fun ls hl => ?_)
            refine lv_goto (tgt := 5) hx hb dX1_nextInTurn_51 (by decide) ?_
            exact ih_1 (some i) (i + 1) _ (by omega) (fun z hz => by cases hz; omega) (tnF_y (Q := (fun i => bt w i)) (ah := (ahB (fun t c => ct (70 * t + c)) sw q nt)) (hB.trans (fo_none (by omega) ho c_31)) (show bt w i = true by rw [← hbt_bt (by omega)]; exact c_26) rfl) (by omega) (lv_sub hl [2, 3, 4, 1, 0] rfl)
          · obtain ⟨b9, rfl⟩ : ∃ b, o1 = some b := by
              cases o1 with
              | none => exact absurd rfl c_31
              | some z => exact ⟨z, rfl⟩
            have hb9 := ho b9 rfl
            refine lv_aload_n hx hb dX1_nextInTurn_34 rfl (lv_at hl 0 rfl) ?_
            refine lv_iload hx hb dX1_nextInTurn_35 (lv_at hl 4 rfl) ?_
            refine lv_iload_n hx hb dX1_nextInTurn_37 rfl (lv_at hl 3 rfl) ?_
            refine lv_iload_n hx hb dX1_nextInTurn_38 rfl (lv_at hl 2 rfl) ?_
            refine rd_calli (va_runV (As := [.int (nI i), .int (nI b9), .int q]) (rest := []) ⟨hx, hb, hml, hown, hts⟩ (u_isAheadE l G g hg f se hf pay fine nt ct sw i b9 q hctc hhs hbk htr hct (by first | assumption | omega | decide) (by first | assumption | omega | decide) (by first | assumption | omega | decide) (by first | assumption | omega | decide) (by first | assumption | omega | decide) (by first | assumption | omega | decide)) (my_cwV hts ok_X1_isAhead w_879 rfl rfl ⟨Nat.le_of_ble_eq_true rfl, Nat.le_of_ble_eq_true rfl⟩) ⟨bP.blind, va_recv hG.1 hP (ci := 1) (q0 := 1) rfl (wl_at (by decide) hctc), fun U hU hW => ⟨rfl, by rw [hU]; exact hP, kG.warm hW hG⟩⟩ rfl rfl hl.1 rfl (lv_room (Nat.le_of_ble_eq_true rfl)) dX1_nextInTurn_39 ⟨Nat.le_of_ble_eq_true rfl, Nat.le_of_ble_eq_true rfl⟩) (fun r hr9 => ?_)
            subst hr9
            refine my_ifeq (tgt := 48) hx hb dX1_nextInTurn_42 (by decide) (fun c_42 => ?_) (fun c_42 => ?_)
            · refine lv_iinc (v := nI (i + 1)) (lv' := [(4, .int (nI (i + 1))), (0, .ref (g 1)), (1, .int w), (2, .int q), (3, .int (nI b9))]) hx hb dX1_nextInTurn_48 hl (k := 4) rfl (nI_1 i) (by decide) rfl (fun ls hl => ?_)
              refine lv_goto (tgt := 5) hx hb dX1_nextInTurn_51 (by decide) ?_
              exact ih_1 (some b9) (i + 1) _ (by omega) (ho) (tnF_n (Q := (fun i => bt w i)) (ah := (ahB (fun t c => ct (70 * t + c)) sw q nt)) hB (fun z => c_42 z.2)) (by omega) (lv_sub hl [1, 2, 3, 4, 0] rfl)
            · refine lv_iload hx hb dX1_nextInTurn_45 (lv_at hl 4 rfl) ?_
              refine lv_istore_n (lv' := [(3, .int (nI i)), (0, .ref (g 1)), (1, .int w), (2, .int q), (4, .int (nI i))]) hx hb dX1_nextInTurn_47 rfl hl (by decide) rfl (fun ls hl => ?_)
              refine lv_iinc (v := nI (i + 1)) (lv' := [(4, .int (nI (i + 1))), (3, .int (nI i)), (0, .ref (g 1)), (1, .int w), (2, .int q)]) hx hb dX1_nextInTurn_48 hl (k := 4) rfl (nI_1 i) (by decide) rfl (fun ls hl => ?_)
              refine lv_goto (tgt := 5) hx hb dX1_nextInTurn_51 (by decide) ?_
              exact ih_1 (some i) (i + 1) _ (by omega) (fun z hz => by cases hz; omega) (tnF_y (Q := (fun i => bt w i)) (ah := (ahB (fun t c => ct (70 * t + c)) sw q nt)) hB (show bt w i = true by rw [← hbt_bt (by omega)]; exact c_26) c_42) (by omega) (lv_sub hl [2, 3, 4, 1, 0] rfl)
  exact key1 (np + 1) none 0 _ (Nat.zero_le _) (fun z hz => by cases hz) (rfl) (by omega) (lv_sub hl [2, 3, 4, 1, 0] rfl)

