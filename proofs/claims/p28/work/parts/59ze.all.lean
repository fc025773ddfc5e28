/-! ===== what is asked of all hearings: count, bad, owed ===== -/
def jcn (J : Nat → Int32) : Nat → Nat
  | 0 => 0
  | n + 1 => jcn J n + (if J n = 0 then 0 else 1)
theorem jcn_y {J : Nat → Int32} {n : Nat} (h : ¬ J n = 0) : jcn J (n + 1) = jcn J n + 1 := by
  show jcn J n + (if J n = 0 then 0 else 1) = _
  rw [if_neg h]
theorem jcn_n {J : Nat → Int32} {n : Nat} (h : J n = 0) : jcn J (n + 1) = jcn J n := by
  show jcn J n + (if J n = 0 then 0 else 1) = _
  rw [if_pos h, Nat.add_zero]
theorem jcn_le {J : Nat → Int32} : ∀ n, jcn J n ≤ n := by
  intro n
  induction n with
  | zero => exact Nat.le_refl _
  | succ n ih =>
    show jcn J n + (if J n = 0 then 0 else 1) ≤ n + 1
    split <;> omega
theorem jcn_congr {J J' : Nat → Int32} : ∀ n, (∀ t, t < n → J t = J' t) → jcn J n = jcn J' n := by
  intro n
  induction n with
  | zero => intro _; rfl
  | succ n ih =>
    intro h
    show jcn J n + (if J n = 0 then 0 else 1) = jcn J' n + (if J' n = 0 then 0 else 1)
    rw [ih (fun t ht => h t (by omega)), h n (by omega)]
/-- the counts, by what is asked -/
def cnV (np nf nr na nt j : Nat) (n : Int32) : Int32 := if n = 0 then nI np else if n = 1 then nI nf else if n = 2 then nI nr else if n = 3 then nI na else if n = 4 then nI nt else nI j
/-- the juries that one of the sides' kin sits in -/
def bdV (F T : Nat → Nat → Int32) (J : Nat → Int32) (nf : Nat) (day : Int32) (n : Nat) : Int32 := sO (fun t => decide (¬ J t &&& knV F (T t 3) (T t 4) day nf = 0)) n
theorem bdV_y {F T : Nat → Nat → Int32} {J : Nat → Int32} {nf n : Nat} {day : Int32} (h : ¬ J n &&& knV F (T n 3) (T n 4) day nf = 0) : bdV F T J nf day (n + 1) = bdV F T J nf day n ||| b1 n := if_pos (decide_eq_true h)
theorem bdV_n {F T : Nat → Nat → Int32} {J : Nat → Int32} {nf n : Nat} {day : Int32} (h : J n &&& knV F (T n 3) (T n 4) day nf = 0) : bdV F T J nf day (n + 1) = bdV F T J nf day n := if_neg (fun z => absurd h (of_decide_eq_true z))
theorem bdV_congr {F F' T T' : Nat → Nat → Int32} {J J' : Nat → Int32} {nf n : Nat} {day : Int32} (hF : ∀ i, i < nf → ∀ c, c < 3 → F i c = F' i c) (hT : ∀ t, t < n → T t 3 = T' t 3 ∧ T t 4 = T' t 4) (hJ9 : ∀ t, t < n → J t = J' t) : bdV F T J nf day n = bdV F' T' J' nf day n :=
  sO_congr n (fun t ht => by rw [hJ9 t ht, (hT t ht).1, (hT t ht).2, knV_congr nf hF])
/-- what is owed -/
def owV (T : Nat → Nat → Int32) (J M : Nat → Int32) (pay fine day : Int32) (p : Nat) : Nat → Int32
  | 0 => 0
  | n + 1 => if T n 0 ≤ day then owV T J M pay fine day p n + (if bt (J n) p = true then pay * T n 1 else 0) - (if bt (M n) p = true then fine else 0) else owV T J M pay fine day p n
theorem owV_y {T : Nat → Nat → Int32} {J M : Nat → Int32} {pay fine day : Int32} {p n : Nat} (h : T n 0 ≤ day) : owV T J M pay fine day p (n + 1) = owV T J M pay fine day p n + (if bt (J n) p = true then pay * T n 1 else 0) - (if bt (M n) p = true then fine else 0) := if_pos h
theorem owV_n {T : Nat → Nat → Int32} {J M : Nat → Int32} {pay fine day : Int32} {p n : Nat} (h : ¬ T n 0 ≤ day) : owV T J M pay fine day p (n + 1) = owV T J M pay fine day p n := if_neg h
theorem owV_congr {T T' : Nat → Nat → Int32} {J J' M M' : Nat → Int32} {pay fine day : Int32} {p : Nat} : ∀ n, (∀ t, t < n → T t 0 = T' t 0 ∧ T t 1 = T' t 1 ∧ J t = J' t ∧ M t = M' t) → owV T J M pay fine day p n = owV T' J' M' pay fine day p n := by
  intro n
  induction n with
  | zero => intro _; rfl
  | succ n ih =>
    intro h
    obtain ⟨h1, h2, h3, h4⟩ := h n (by omega)
    show (if T n 0 ≤ day then owV T J M pay fine day p n + (if bt (J n) p = true then pay * T n 1 else 0) - (if bt (M n) p = true then fine else 0) else owV T J M pay fine day p n) = (if T' n 0 ≤ day then owV T' J' M' pay fine day p n + (if bt (J' n) p = true then pay * T' n 1 else 0) - (if bt (M' n) p = true then fine else 0) else owV T' J' M' pay fine day p n)
    rw [ih (fun t ht => h t (by omega)), h1, h2, h3, h4]
/-- a 2 on the slips: who stayed away -/
theorem stZ_2 {box ca mi sw : Int32} {x : Int32 × Int32} {p : Nat} (h1 : bt mi p = true → bt ca p = true) (h2 : bt ca p = true → bt box p = true) : stZ box ca mi x sw p = 2 ↔ bt mi p = true := by
  unfold stZ
  cases hm : bt mi p with
  | true =>
    rw [if_neg (by rw [h2 (h1 hm)]; decide), if_neg (by rw [h1 hm]; decide), if_pos rfl]
    simp
  | false =>
    constructor
    · intro h
      exfalso
      revert h
      cases bt box p <;> cases bt ca p <;> cases bt x.1 p <;> cases bt x.2 p <;> cases bt sw p <;> decide
    · intro h
      cases h
theorem rHz_2 {np nf nr na z p : Nat} {ss bo ju dr dn sl ax : Nat → Int32} (h : rHz np nf nr na ss bo ju dr dn sl ax z) (hp : p < 30) : sl (p + 30 * z) = 2 ↔ bt (hMi (rBx np nf nr na ss z) (kS ss z)) p = true := by
  rw [h.2.2.2.2.1 p hp, slZ_stZ hp]
  refine stZ_2 (fun q => ?_) (fun q => drC_in (Nat.min_le_right _ _) q)
  unfold hMi at q
  rw [bt_and, Bool.and_eq_true] at q
  exact q.1
theorem cnV_ss {ss : Nat → Int32} {np nf nr na nt j wq : Nat} (hs : stOK ss np nf nr na nt) (h : wq ≤ 5) (h5 : ¬ wq = 5) : ss wq = cnV np nf nr na nt j (nI wq) := by
  unfold cnV
  rcases (show wq = 0 ∨ wq = 1 ∨ wq = 2 ∨ wq = 3 ∨ wq = 4 by omega) with e | e | e | e | e <;> subst e
  · rw [if_pos (by decide)]; exact hs.h0
  · rw [if_neg (by decide), if_pos (by decide)]; exact hs.h1
  · rw [if_neg (by decide), if_neg (by decide), if_pos (by decide)]; exact hs.h2
  · rw [if_neg (by decide), if_neg (by decide), if_neg (by decide), if_pos (by decide)]; exact hs.h3
  · rw [if_neg (by decide), if_neg (by decide), if_neg (by decide), if_neg (by decide), if_pos (by decide)]; exact hs.h4
theorem cnV_5 {np nf nr na nt j : Nat} : cnV np nf nr na nt j (nI 5) = nI j := by
  unfold cnV
  rw [if_neg (by decide), if_neg (by decide), if_neg (by decide), if_neg (by decide), if_neg (by decide)]
set_option maxHeartbeats 4000000 in
set_option maxRecDepth 100000 in
theorem u_swornE (l : Launch) (G : gW) (g : Nat → Nat) (hg : gOK g) (f : Nat → va_E) (se : Nat) (hf : Nat → Option Nat) (pay : Int32) (fine : Int32) (nt : Nat) (ct : Nat → Int32) (sw : Nat → Int32) (hctc : f 1 = eO 1 [.ref (g 36), .ref (g 12), .ref (g 13), .ref (g 15), .int (nI se)]) (hhs : f 12 = eA G 4 10 hf) (hbk : f 36 = eO 0 [.ref (g 37), .ref (g 39), .ref (g 41), .ref (g 43), .ref (g 45), .ref (g 47), .ref (g 112), .int pay, .int fine]) (htr : f 45 = eO 5 [.int (nI 10), .int (nI 70), .ref (g 46), .int (nI nt)]) (hct : f 46 = eI G (10 * 70) ct) (hse : se ≤ 10) (hhf : ∀ i, i < 10 → hf i = some (g (2 * i + 16))) (hnt : nt ≤ 10) (hZ : ∀ i, i < 10 → okZ G g f (2 * i + 16) (sw i)) : Met l yX1_sworn (wsT yX1_sworn cX1_sworn 3 (some .int)) ({ frames := 1, cells := 0, slots := 0, locals := 21 }) (bP G g f [.ref (g 1)]) (rQi (fun z9 => z9 = nI (jcn sw nt))) 0 0 fr0 := by
  refine Met.ofW (cc := cX1_sworn) (maxL := 3) (ret := (some .int)) (by decide) rfl ?_
  intro p e s m args below meth c s₁ B hml hv
  obtain ⟨rfl, hP, hG⟩ := hv
  have hx := B.exec
  have hb := B.bytes
  have hr := B.returns
  have hts := my_hts (atoms_spec (ws := wsT yX1_sworn cX1_sworn 3 (some .int)) B.pre)
  have hown : s.vm.findClass RX1 = some m.cls := findClass_of_methodNamed B.named
  have hlocks := B.notSynchronized
  have hl := lv_entry ([.ref (g 1)]) (n := 3) (Nat.le_of_ble_eq_true rfl)
  rw [lg_entry_eq]
  generalize (lg_sl ([.ref (g 1)]) ++ List.replicate (3 - (lg_sl ([.ref (g 1)])).length) Slot.unset).toArray = ls at hl ⊢
  have hl : lv_has ls 3 [(0, .ref (g 1))] := hl
  refine W_q8 (fun Q9 hQ9 => ?_)
  refine lv_iconst (v := 0) hx hb dX1_sworn_0 (by decide) ?_
  refine lv_istore_n (lv' := [(1, .int 0), (0, .ref (g 1))]) hx hb dX1_sworn_1 rfl hl (by decide) rfl (fun ls hl => ?_)
  refine lv_iconst (v := 0) hx hb dX1_sworn_2 (by decide) ?_
  refine lv_istore_n (lv' := [(2, .int 0), (1, .int 0), (0, .ref (g 1))]) hx hb dX1_sworn_3 rfl hl (by decide) rfl (fun ls hl => ?_)
  have key1 : ∀ (n9_1 : Nat) (i : Nat) (u : Nat) (ls : Array Slot), (i ≤ nt) → (u = jcn sw i) → nt - i < n9_1 → lv_has ls 3 [(0, .ref (g 1)), (1, .int (nI u)), (2, .int (nI i))] → W p l e (headSpec (wsT yX1_sworn cX1_sworn 3 (some .int)) ({ frames := 1, cells := 0, slots := 0, locals := 21 })).room s m ([.ref (g 1)] : List Value).toArray below meth c s.heap [] 0 0 Q9 (F0 m 4 ls []) := by
    intro n9_1
    induction n9_1 with
    | zero => intro i u ls hi hu hn9_1; exact absurd hn9_1 (Nat.not_lt_zero _)
    | succ n9_1 ih_1 =>
      intro i u ls hi hu hn9_1 hl
      refine lv_iload_n hx hb dX1_sworn_4 rfl (lv_at hl 2 rfl) ?_
      refine lv_aload_n hx hb dX1_sworn_5 rfl (lv_at hl 0 rfl) ?_
      refine va_get (D := G.1) (ci := 1) (v := .ref (g 36)) (C := RX1) (T := TX1) (N := 5) hx hb hts inlX1 hown hG.1 hP 1 (wl_at (by decide) hctc) rfl 0 (by decide) (hts (.fieldLink RX1 12 "SwornLists$Court" "book" "LSwornLists$Book;") w_40) (fun _ h9 => h9) rfl dX1_sworn_6 ?_
      refine va_getN (D := G.1) (ci := 0) (v := .ref (g 45)) (C := RX0) (T := TX0) (N := 9) (host := RX10) hx hb hts inlX0 hown hG.1 hP 36 (wl_at (by decide) hbk) rfl 4 (by decide) (va_Nw.use rfl (hG.2.1 (.fieldLinkNest RX1 43 RX0 "trials" "LSwornLists$Rows;" RX10) (List.mem_of_getElem? (i := 6) rfl))) (fun _ h9 => h9) rfl dX1_sworn_9 ?_
      refine rd_calli (va_runV (As := []) (rest := [.int (nI i)]) ⟨hx, hb, hml, hown, hts⟩ (r_size l G g hg f 45 10 70 nt htr (by first | assumption | omega | decide) (by first | assumption | omega | decide) (by first | assumption | omega | decide) (by first | assumption | omega | decide)) (my_cwV hts ok_X5_size w_388 rfl rfl ⟨Nat.le_of_ble_eq_true rfl, Nat.le_of_ble_eq_true rfl⟩) ⟨bP.blind, va_recv hG.1 hP (ci := 5) (q0 := 45) rfl (wl_at (by decide) htr), fun U hU hW => ⟨rfl, by rw [hU]; exact hP, kG.warm hW hG⟩⟩ rfl rfl hl.1 rfl (lv_room (Nat.le_of_ble_eq_true rfl)) dX1_sworn_12 ⟨Nat.le_of_ble_eq_true rfl, Nat.le_of_ble_eq_true rfl⟩) (fun r hr9 => ?_)
      subst hr9
      refine lv_icmp_ge (tgt := 38) hx hb dX1_sworn_15 (by decide) (fun c_15 => ?_) (fun c_15 => ?_)
      · have hin : i = nt := by
          have h9 := (nI_leI (by omega) (by omega)).mp c_15
          omega
        rw [hin] at hu
        refine lv_iload_n hx hb dX1_sworn_38 rfl (lv_at hl 1 rfl) ?_
        refine W_q9 hQ9 ?_
        exact W.iret (v := nI u) hx hb hr (fun _ hT9 _ => ⟨_, rfl, (by rw [hu]), hT9⟩) (fun _ h => absurd h List.not_mem_nil) dX1_sworn_39
      · have hi9 : i < nt := Nat.not_le.mp (fun z => c_15 (nI_le z (by omega)))
        obtain ⟨sl7, lo7, ib7, ca7, mi7, s07, s17, od7, hh7, ho7, hs7⟩ := hZ i (by omega)
        refine lv_aload_n hx hb dX1_sworn_18 rfl (lv_at hl 0 rfl) ?_
        refine lv_iload_n hx hb dX1_sworn_19 rfl (lv_at hl 2 rfl) ?_
        refine rd_calla (va_runV (As := [.int (nI i)]) (rest := []) ⟨hx, hb, hml, hown, hts⟩ (u_hearing l G g hg f se hf i hctc hhs (by first | assumption | omega | decide) (by first | assumption | omega | decide) (by first | assumption | omega | decide)) (my_cwV hts ok_X1_hearing w_390 rfl rfl ⟨Nat.le_of_ble_eq_true rfl, Nat.le_of_ble_eq_true rfl⟩) ⟨bP.blind, va_recv hG.1 hP (ci := 1) (q0 := 1) rfl (wl_at (by decide) hctc), fun U hU hW => ⟨rfl, by rw [hU]; exact hP, kG.warm hW hG⟩⟩ rfl rfl hl.1 rfl (lv_room (Nat.le_of_ble_eq_true rfl)) dX1_sworn_20 ⟨Nat.le_of_ble_eq_true rfl, Nat.le_of_ble_eq_true rfl⟩) (fun r hr9 => ?_)
        subst hr9
        refine va_getN (D := G.1) (ci := 3) (v := .int (sw i)) (C := RX3) (T := TX3) (N := 9) (host := RX10) hx hb hts inlX3 hown hG.1 hP (2 * i + 16) (wl_at (by omega) hh7) rfl 8 (by decide) (va_Nw.use rfl (hG.2.1 (.fieldLinkNest RX1 107 RX3 "sworn" "I" RX10) (List.mem_of_getElem? (i := 15) rfl))) (fun _ h9 => h9) rfl dX1_sworn_23 ?_
        refine lv_if_eq (tgt := 32) hx hb dX1_sworn_26 (by decide) (fun c_26 => ?_) (fun c_26 => ?_)
        · refine lv_iinc (v := nI (i + 1)) (lv' := [(2, .int (nI (i + 1))), (0, .ref (g 1)), (1, .int (nI u))]) hx hb dX1_sworn_32 hl (k := 2) rfl (nI_1 i) (by decide) rfl (fun ls hl => ?_)
          refine lv_goto (tgt := 4) hx hb dX1_sworn_35 (by decide) ?_
          exact ih_1 (i + 1) u _ (hi9) (by rw [hu, jcn_n c_26]) (by omega) (lv_sub hl [1, 2, 0] rfl)
        · refine lv_iinc (v := nI (u + 1)) (lv' := [(1, .int (nI (u + 1))), (0, .ref (g 1)), (2, .int (nI i))]) hx hb dX1_sworn_29 hl (k := 1) rfl (nI_1 u) (by decide) rfl (fun ls hl => ?_)
          refine lv_iinc (v := nI (i + 1)) (lv' := [(2, .int (nI (i + 1))), (1, .int (nI (u + 1))), (0, .ref (g 1))]) hx hb dX1_sworn_32 hl (k := 2) rfl (nI_1 i) (by decide) rfl (fun ls hl => ?_)
          refine lv_goto (tgt := 4) hx hb dX1_sworn_35 (by decide) ?_
          exact ih_1 (i + 1) (u + 1) _ (hi9) (by rw [hu, jcn_y c_26]) (by omega) (lv_sub hl [2, 1, 0] rfl)
  exact key1 (nt + 1) 0 0 _ (Nat.zero_le _) (rfl) (by omega) (lv_sub hl [2, 1, 0] rfl)
set_option maxHeartbeats 4000000 in
set_option maxRecDepth 100000 in
theorem m_howManyE (l : Launch) (G : gW) (g : Nat → Nat) (hg : gOK g) (f : Nat → va_E) (se : Nat) (hf : Nat → Option Nat) (pay : Int32) (fine : Int32) (np : Nat) (dp : Nat → Int32) (nf : Nat) (df : Nat → Int32) (nr : Nat) (dr : Nat → Int32) (na : Nat) (da : Nat → Int32) (nt : Nat) (ct : Nat → Int32) (sw : Nat → Int32) (n : Int32) (hx0 : f 0 = eO 9 [.ref (g 1), .ref (g 36), .ref (g 2), .ref (g 3), .ref (g 4), .ref (g 6), .ref (g 7)]) (hctc : f 1 = eO 1 [.ref (g 36), .ref (g 12), .ref (g 13), .ref (g 15), .int (nI se)]) (hhs : f 12 = eA G 4 10 hf) (hbk : f 36 = eO 0 [.ref (g 37), .ref (g 39), .ref (g 41), .ref (g 43), .ref (g 45), .ref (g 47), .ref (g 112), .int pay, .int fine]) (hpr : f 37 = eO 5 [.int (nI 30), .int (nI 4), .ref (g 38), .int (nI np)]) (hpd : f 38 = eI G (30 * 4) dp) (hfr : f 39 = eO 5 [.int (nI 40), .int (nI 3), .ref (g 40), .int (nI nf)]) (hfd : f 40 = eI G (40 * 3) df) (hor : f 41 = eO 5 [.int (nI 4), .int (nI 3), .ref (g 42), .int (nI nr)]) (hod : f 42 = eI G (4 * 3) dr) (har : f 43 = eO 5 [.int (nI 20), .int (nI 3), .ref (g 44), .int (nI na)]) (had : f 44 = eI G (20 * 3) da) (htr : f 45 = eO 5 [.int (nI 10), .int (nI 70), .ref (g 46), .int (nI nt)]) (hct : f 46 = eI G (10 * 70) ct) (hse : se ≤ 10) (hhf : ∀ i, i < 10 → hf i = some (g (2 * i + 16))) (hnp : np ≤ 30) (hnf : nf ≤ 40) (hnr : nr ≤ 4) (hna : na ≤ 20) (hnt : nt ≤ 10) (hZ : ∀ i, i < 10 → okZ G g f (2 * i + 16) (sw i)) : Met l yX10_howMany (wsT yX10_howMany cX10_howMany 2 (some .int)) ({ frames := 2, cells := 0, slots := 0, locals := 43 }) (bP G g f [.ref (g 0), .int n]) (rQi (fun z9 => z9 = cnV np nf nr na nt (jcn sw nt) n)) 0 0 fr0 := by
  refine Met.ofW (cc := cX10_howMany) (maxL := 2) (ret := (some .int)) (by decide) rfl ?_
  intro p e s m args below meth c s₁ B hml hv
  obtain ⟨rfl, hP, hG⟩ := hv
  have hx := B.exec
  have hb := B.bytes
  have hr := B.returns
  have hts := my_hts (atoms_spec (ws := wsT yX10_howMany cX10_howMany 2 (some .int)) B.pre)
  have hown : s.vm.findClass RX10 = some m.cls := findClass_of_methodNamed B.named
  have hlocks := B.notSynchronized
  have hl := lv_entry ([.ref (g 0), .int n]) (n := 2) (Nat.le_of_ble_eq_true rfl)
  rw [lg_entry_eq]
  generalize (lg_sl ([.ref (g 0), .int n]) ++ List.replicate (2 - (lg_sl ([.ref (g 0), .int n])).length) Slot.unset).toArray = ls at hl ⊢
  have hl : lv_has ls 2 [(0, .ref (g 0)), (1, .int n)] := hl
  refine W_q8 (fun Q9 hQ9 => ?_)
  refine lv_iload_n hx hb dX10_howMany_0 rfl (lv_at hl 1 rfl) ?_
  by_cases e_0 : n = 0
  · refine my_bei e_0 ?_
    refine lv_tableIn (off := 35) (tgt := 36) hx hb dX10_howMany_1 (by decide) (by decide) (by decide) (by decide) ?_
    refine lv_aload_n hx hb dX10_howMany_36 rfl (lv_at hl 0 rfl) ?_
    refine va_get (D := G.1) (ci := 9) (v := .ref (g 36)) (C := RX10) (T := TX10) (N := 7) hx hb hts inlX10 hown hG.1 hP 0 (wl_at (by decide) hx0) rfl 1 (by decide) (hts (.fieldLink RX10 20 "SwornLists" "book" "LSwornLists$Book;") w_16) (fun _ h9 => h9) rfl dX10_howMany_37 ?_
    refine va_getN (D := G.1) (ci := 0) (v := .ref (g 37)) (C := RX0) (T := TX0) (N := 9) (host := RX10) hx hb hts inlX0 hown hG.1 hP 36 (wl_at (by decide) hbk) rfl 0 (by decide) (va_Nw.use rfl (hG.2.1 (.fieldLinkNest RX10 57 RX0 "people" "LSwornLists$Rows;" RX10) (List.mem_of_getElem? (i := 0) rfl))) (fun _ h9 => h9) rfl dX10_howMany_40 ?_
    refine rd_calli (va_runV (As := []) (rest := []) ⟨hx, hb, hml, hown, hts⟩ (r_size l G g hg f 37 30 4 np hpr (by first | assumption | omega | decide) (by first | assumption | omega | decide) (by first | assumption | omega | decide) (by first | assumption | omega | decide)) (my_cwV hts ok_X5_size w_642 rfl rfl ⟨Nat.le_of_ble_eq_true rfl, Nat.le_of_ble_eq_true rfl⟩) ⟨bP.blind, va_recv hG.1 hP (ci := 5) (q0 := 37) rfl (wl_at (by decide) hpr), fun U hU hW => ⟨rfl, by rw [hU]; exact hP, kG.warm hW hG⟩⟩ rfl rfl hl.1 rfl (lv_room (Nat.le_of_ble_eq_true rfl)) dX10_howMany_43 ⟨Nat.le_of_ble_eq_true rfl, Nat.le_of_ble_eq_true rfl⟩) (fun r hr9 => ?_)
    subst hr9
    refine W_q9 hQ9 ?_
    exact W.iret (v := nI np) hx hb hr (fun _ hT9 _ => ⟨_, rfl, (by unfold cnV; rw [if_pos e_0]), hT9⟩) (fun _ h => absurd h List.not_mem_nil) dX10_howMany_46
  by_cases e_1 : n = 1
  · refine my_bei e_1 ?_
    refine lv_tableIn (off := 46) (tgt := 47) hx hb dX10_howMany_1 (by decide) (by decide) (by decide) (by decide) ?_
    refine lv_aload_n hx hb dX10_howMany_47 rfl (lv_at hl 0 rfl) ?_
    refine va_get (D := G.1) (ci := 9) (v := .ref (g 36)) (C := RX10) (T := TX10) (N := 7) hx hb hts inlX10 hown hG.1 hP 0 (wl_at (by decide) hx0) rfl 1 (by decide) (hts (.fieldLink RX10 20 "SwornLists" "book" "LSwornLists$Book;") w_16) (fun _ h9 => h9) rfl dX10_howMany_48 ?_
    refine va_getN (D := G.1) (ci := 0) (v := .ref (g 39)) (C := RX0) (T := TX0) (N := 9) (host := RX10) hx hb hts inlX0 hown hG.1 hP 36 (wl_at (by decide) hbk) rfl 1 (by decide) (va_Nw.use rfl (hG.2.1 (.fieldLinkNest RX10 82 RX0 "facts" "LSwornLists$Rows;" RX10) (List.mem_of_getElem? (i := 2) rfl))) (fun _ h9 => h9) rfl dX10_howMany_51 ?_
    refine rd_calli (va_runV (As := []) (rest := []) ⟨hx, hb, hml, hown, hts⟩ (r_size l G g hg f 39 40 3 nf hfr (by first | assumption | omega | decide) (by first | assumption | omega | decide) (by first | assumption | omega | decide) (by first | assumption | omega | decide)) (my_cwV hts ok_X5_size w_642 rfl rfl ⟨Nat.le_of_ble_eq_true rfl, Nat.le_of_ble_eq_true rfl⟩) ⟨bP.blind, va_recv hG.1 hP (ci := 5) (q0 := 39) rfl (wl_at (by decide) hfr), fun U hU hW => ⟨rfl, by rw [hU]; exact hP, kG.warm hW hG⟩⟩ rfl rfl hl.1 rfl (lv_room (Nat.le_of_ble_eq_true rfl)) dX10_howMany_54 ⟨Nat.le_of_ble_eq_true rfl, Nat.le_of_ble_eq_true rfl⟩) (fun r hr9 => ?_)
    subst hr9
    refine W_q9 hQ9 ?_
    exact W.iret (v := nI nf) hx hb hr (fun _ hT9 _ => ⟨_, rfl, (by unfold cnV; rw [if_neg e_0, if_pos e_1]), hT9⟩) (fun _ h => absurd h List.not_mem_nil) dX10_howMany_57
  by_cases e_2 : n = 2
  · refine my_bei e_2 ?_
    refine lv_tableIn (off := 57) (tgt := 58) hx hb dX10_howMany_1 (by decide) (by decide) (by decide) (by decide) ?_
    refine lv_aload_n hx hb dX10_howMany_58 rfl (lv_at hl 0 rfl) ?_
    refine va_get (D := G.1) (ci := 9) (v := .ref (g 36)) (C := RX10) (T := TX10) (N := 7) hx hb hts inlX10 hown hG.1 hP 0 (wl_at (by decide) hx0) rfl 1 (by decide) (hts (.fieldLink RX10 20 "SwornLists" "book" "LSwornLists$Book;") w_16) (fun _ h9 => h9) rfl dX10_howMany_59 ?_
    refine va_getN (D := G.1) (ci := 0) (v := .ref (g 41)) (C := RX0) (T := TX0) (N := 9) (host := RX10) hx hb hts inlX0 hown hG.1 hP 36 (wl_at (by decide) hbk) rfl 2 (by decide) (va_Nw.use rfl (hG.2.1 (.fieldLinkNest RX10 88 RX0 "rolls" "LSwornLists$Rows;" RX10) (List.mem_of_getElem? (i := 3) rfl))) (fun _ h9 => h9) rfl dX10_howMany_62 ?_
    refine rd_calli (va_runV (As := []) (rest := []) ⟨hx, hb, hml, hown, hts⟩ (r_size l G g hg f 41 4 3 nr hor (by first | assumption | omega | decide) (by first | assumption | omega | decide) (by first | assumption | omega | decide) (by first | assumption | omega | decide)) (my_cwV hts ok_X5_size w_642 rfl rfl ⟨Nat.le_of_ble_eq_true rfl, Nat.le_of_ble_eq_true rfl⟩) ⟨bP.blind, va_recv hG.1 hP (ci := 5) (q0 := 41) rfl (wl_at (by decide) hor), fun U hU hW => ⟨rfl, by rw [hU]; exact hP, kG.warm hW hG⟩⟩ rfl rfl hl.1 rfl (lv_room (Nat.le_of_ble_eq_true rfl)) dX10_howMany_65 ⟨Nat.le_of_ble_eq_true rfl, Nat.le_of_ble_eq_true rfl⟩) (fun r hr9 => ?_)
    subst hr9
    refine W_q9 hQ9 ?_
    exact W.iret (v := nI nr) hx hb hr (fun _ hT9 _ => ⟨_, rfl, (by unfold cnV; rw [if_neg e_0, if_neg e_1, if_pos e_2]), hT9⟩) (fun _ h => absurd h List.not_mem_nil) dX10_howMany_68
  by_cases e_3 : n = 3
  · refine my_bei e_3 ?_
    refine lv_tableIn (off := 68) (tgt := 69) hx hb dX10_howMany_1 (by decide) (by decide) (by decide) (by decide) ?_
    refine lv_aload_n hx hb dX10_howMany_69 rfl (lv_at hl 0 rfl) ?_
    refine va_get (D := G.1) (ci := 9) (v := .ref (g 36)) (C := RX10) (T := TX10) (N := 7) hx hb hts inlX10 hown hG.1 hP 0 (wl_at (by decide) hx0) rfl 1 (by decide) (hts (.fieldLink RX10 20 "SwornLists" "book" "LSwornLists$Book;") w_16) (fun _ h9 => h9) rfl dX10_howMany_70 ?_
    refine va_getN (D := G.1) (ci := 0) (v := .ref (g 43)) (C := RX0) (T := TX0) (N := 9) (host := RX10) hx hb hts inlX0 hown hG.1 hP 36 (wl_at (by decide) hbk) rfl 3 (by decide) (va_Nw.use rfl (hG.2.1 (.fieldLinkNest RX10 134 RX0 "acts" "LSwornLists$Rows;" RX10) (List.mem_of_getElem? (i := 4) rfl))) (fun _ h9 => h9) rfl dX10_howMany_73 ?_
    refine rd_calli (va_runV (As := []) (rest := []) ⟨hx, hb, hml, hown, hts⟩ (r_size l G g hg f 43 20 3 na har (by first | assumption | omega | decide) (by first | assumption | omega | decide) (by first | assumption | omega | decide) (by first | assumption | omega | decide)) (my_cwV hts ok_X5_size w_642 rfl rfl ⟨Nat.le_of_ble_eq_true rfl, Nat.le_of_ble_eq_true rfl⟩) ⟨bP.blind, va_recv hG.1 hP (ci := 5) (q0 := 43) rfl (wl_at (by decide) har), fun U hU hW => ⟨rfl, by rw [hU]; exact hP, kG.warm hW hG⟩⟩ rfl rfl hl.1 rfl (lv_room (Nat.le_of_ble_eq_true rfl)) dX10_howMany_76 ⟨Nat.le_of_ble_eq_true rfl, Nat.le_of_ble_eq_true rfl⟩) (fun r hr9 => ?_)
    subst hr9
    refine W_q9 hQ9 ?_
    exact W.iret (v := nI na) hx hb hr (fun _ hT9 _ => ⟨_, rfl, (by unfold cnV; rw [if_neg e_0, if_neg e_1, if_neg e_2, if_pos e_3]), hT9⟩) (fun _ h => absurd h List.not_mem_nil) dX10_howMany_79
  by_cases e_4 : n = 4
  · refine my_bei e_4 ?_
    refine lv_tableIn (off := 79) (tgt := 80) hx hb dX10_howMany_1 (by decide) (by decide) (by decide) (by decide) ?_
    refine lv_aload_n hx hb dX10_howMany_80 rfl (lv_at hl 0 rfl) ?_
    refine va_get (D := G.1) (ci := 9) (v := .ref (g 36)) (C := RX10) (T := TX10) (N := 7) hx hb hts inlX10 hown hG.1 hP 0 (wl_at (by decide) hx0) rfl 1 (by decide) (hts (.fieldLink RX10 20 "SwornLists" "book" "LSwornLists$Book;") w_16) (fun _ h9 => h9) rfl dX10_howMany_81 ?_
    refine va_getN (D := G.1) (ci := 0) (v := .ref (g 45)) (C := RX0) (T := TX0) (N := 9) (host := RX10) hx hb hts inlX0 hown hG.1 hP 36 (wl_at (by decide) hbk) rfl 4 (by decide) (va_Nw.use rfl (hG.2.1 (.fieldLinkNest RX10 162 RX0 "trials" "LSwornLists$Rows;" RX10) (List.mem_of_getElem? (i := 7) rfl))) (fun _ h9 => h9) rfl dX10_howMany_84 ?_
    refine rd_calli (va_runV (As := []) (rest := []) ⟨hx, hb, hml, hown, hts⟩ (r_size l G g hg f 45 10 70 nt htr (by first | assumption | omega | decide) (by first | assumption | omega | decide) (by first | assumption | omega | decide) (by first | assumption | omega | decide)) (my_cwV hts ok_X5_size w_642 rfl rfl ⟨Nat.le_of_ble_eq_true rfl, Nat.le_of_ble_eq_true rfl⟩) ⟨bP.blind, va_recv hG.1 hP (ci := 5) (q0 := 45) rfl (wl_at (by decide) htr), fun U hU hW => ⟨rfl, by rw [hU]; exact hP, kG.warm hW hG⟩⟩ rfl rfl hl.1 rfl (lv_room (Nat.le_of_ble_eq_true rfl)) dX10_howMany_87 ⟨Nat.le_of_ble_eq_true rfl, Nat.le_of_ble_eq_true rfl⟩) (fun r hr9 => ?_)
    subst hr9
    refine W_q9 hQ9 ?_
    exact W.iret (v := nI nt) hx hb hr (fun _ hT9 _ => ⟨_, rfl, (by unfold cnV; rw [if_neg e_0, if_neg e_1, if_neg e_2, if_neg e_3, if_pos e_4]), hT9⟩) (fun _ h => absurd h List.not_mem_nil) dX10_howMany_90
  have n_0 : n.toInt ≠ 0 := fun z => e_0 (Int32.toInt_inj.mp (z.trans (by decide)))
  have n_1 : n.toInt ≠ 1 := fun z => e_1 (Int32.toInt_inj.mp (z.trans (by decide)))
  have n_2 : n.toInt ≠ 2 := fun z => e_2 (Int32.toInt_inj.mp (z.trans (by decide)))
  have n_3 : n.toInt ≠ 3 := fun z => e_3 (Int32.toInt_inj.mp (z.trans (by decide)))
  have n_4 : n.toInt ≠ 4 := fun z => e_4 (Int32.toInt_inj.mp (z.trans (by decide)))
  refine lv_tableOut (tgt := 91) hx hb dX10_howMany_1 (by omega) (by decide) ?_
  refine lv_aload_n hx hb dX10_howMany_91 rfl (lv_at hl 0 rfl) ?_
  refine va_get (D := G.1) (ci := 9) (v := .ref (g 1)) (C := RX10) (T := TX10) (N := 7) hx hb hts inlX10 hown hG.1 hP 0 (wl_at (by decide) hx0) rfl 0 (by decide) (hts (.fieldLink RX10 12 "SwornLists" "court" "LSwornLists$Court;") w_15) (fun _ h9 => h9) rfl dX10_howMany_92 ?_
  refine rd_calli (va_runV (As := []) (rest := []) ⟨hx, hb, hml, hown, hts⟩ (u_swornE l G g hg f se hf pay fine nt ct sw hctc hhs hbk htr hct (by first | assumption | omega | decide) (by first | assumption | omega | decide) (by first | assumption | omega | decide) (by first | assumption | omega | decide)) (my_cwV hts ok_X1_sworn w_930 rfl rfl ⟨Nat.le_of_ble_eq_true rfl, Nat.le_of_ble_eq_true rfl⟩) ⟨bP.blind, va_recv hG.1 hP (ci := 1) (q0 := 1) rfl (wl_at (by decide) hctc), fun U hU hW => ⟨rfl, by rw [hU]; exact hP, kG.warm hW hG⟩⟩ rfl rfl hl.1 rfl (lv_room (Nat.le_of_ble_eq_true rfl)) dX10_howMany_95 ⟨Nat.le_of_ble_eq_true rfl, Nat.le_of_ble_eq_true rfl⟩) (fun r hr9 => ?_)
  subst hr9
  refine W_q9 hQ9 ?_
  exact W.iret (v := nI (jcn sw nt)) hx hb hr (fun _ hT9 _ => ⟨_, rfl, (by unfold cnV; rw [if_neg e_0, if_neg e_1, if_neg e_2, if_neg e_3, if_neg e_4]), hT9⟩) (fun _ h => absurd h List.not_mem_nil) dX10_howMany_98

