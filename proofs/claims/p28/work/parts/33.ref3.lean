set_option maxHeartbeats 4000000 in
set_option maxRecDepth 100000 in
theorem r_reads (l : Launch) (G : gW) (g : Nat → Nat) (hg : gOK g) (f : Nat → va_E) (ab2 : Int64) (be2 : Int64) (sn : Int32) (wn : Int32) (sa : Int32) (ly : Int32) (rdy : Int32) (fd : Int32) (ss : Nat → Int32) (sp : Nat → Int32) (wi : Nat → Int32) (wa : Nat → Int32) (fr : Nat) (n : Nat) (hmo : f 315 = eO 10 [.ref (g 316), .ref (g 317), .ref (g 318), .long ab2, .long be2, .int sn, .ref (g 319), .ref (g 320), .int wn, .ref (g 321), .ref (g 322), .int sa, .int ly, .int rdy, .int fd, .ref (g 323), .ref (g 324), .ref (g 325), .ref (g 326), .ref (g 327), .ref (g 328), .ref (g 329), .ref (g 330), .ref (g 331), .ref (g 332)]) (hss_ : f 316 = eI G 2246 ss) (hsp_ : f 319 = eI G 70 sp) (hwi_ : f 320 = eI G 70 wi) (hwa_ : f 321 = eI G 70 wa) (hfr : fr + 51 ≤ 2246) (hn : ss fr = nI n) (hn50 : n ≤ 50) : Met l yX11_reads (wsT yX11_reads cX11_reads 9 (some .int)) ({ frames := 3, cells := 0, slots := 0, locals := 65 }) (bP G g f [.ref (g 315), .int (nI fr)]) (bQi G g (fun (z9 : Int32) (f' : Nat → va_E) => ∃ sn9 : Nat, ∃ wn9 : Nat, ∃ sp9 : Nat → Int32, ∃ wi9 : Nat → Int32, ∃ wa9 : Nat → Int32, z9 = rdA n (fun k => ss (fr + k + 1)) ∧ f' 315 = eO 10 [.ref (g 316), .ref (g 317), .ref (g 318), .long ab2, .long be2, .int (nI sn9), .ref (g 319), .ref (g 320), .int (nI wn9), .ref (g 321), .ref (g 322), .int sa, .int ly, .int rdy, .int fd, .ref (g 323), .ref (g 324), .ref (g 325), .ref (g 326), .ref (g 327), .ref (g 328), .ref (g 329), .ref (g 330), .ref (g 331), .ref (g 332)] ∧ f' 319 = eI G 70 sp9 ∧ f' 320 = eI G 70 wi9 ∧ f' 321 = eI G 70 wa9 ∧ (rdA n (fun k => ss (fr + k + 1)) = -1 → dep sp9 sn9 = some 1 ∧ sn9 ≤ 50) ∧ ∀ j, (j ≠ 315 ∧ j ≠ 319 ∧ j ≠ 320 ∧ j ≠ 321) → f' j = f j)) 0 0 (gA g) := by
  refine Met.ofW (cc := cX11_reads) (maxL := 9) (ret := (some .int)) (by decide) rfl ?_
  intro p e s m args below meth c s₁ B hml hv
  obtain ⟨rfl, hP, hG⟩ := hv
  have hx := B.exec
  have hb := B.bytes
  have hr := B.returns
  have hts := my_hts (atoms_spec (ws := wsT yX11_reads cX11_reads 9 (some .int)) B.pre)
  have hown : s.vm.findClass RX11 = some m.cls := findClass_of_methodNamed B.named
  have hlocks := B.notSynchronized
  have hS : va_S (gA g) s.heap s.heap [] := va_S.rf
  have hl := lv_entry ([.ref (g 315), .int (nI fr)]) (n := 9) (Nat.le_of_ble_eq_true rfl)
  rw [lg_entry_eq]
  generalize (lg_sl ([.ref (g 315), .int (nI fr)]) ++ List.replicate (9 - (lg_sl ([.ref (g 315), .int (nI fr)])).length) Slot.unset).toArray = ls at hl ⊢
  have hl : lv_has ls 9 [(0, .ref (g 315)), (1, .int (nI fr))] := hl
  refine lv_aload_n hx hb dX11_reads_0 rfl (lv_at hl 0 rfl) ?_
  refine va_get (D := G.1) (ci := 10) (v := .ref (g 316)) (C := RX11) (T := TX11) (N := 25) hx hb hts inlX11 hown hG.1 hP 315 (wl_at (by decide) hmo) rfl 0 (by decide) (hts (.fieldLink RX11 7 "SwornListsModel" "st" "[I") w_112) (fun _ h9 => h9) rfl dX11_reads_1 ?_
  refine lv_iload_n hx hb dX11_reads_4 rfl (lv_at hl 1 rfl) ?_
  refine va_iald hx hb hG.1 hP 316 0 (wl_at (by decide) hss_) rfl (vp_in_nI (by omega) (by decide)) dX11_reads_5 ?_
  refine my_bei (v := ss fr) (congrArg ss (nI_clamp (n := fr) (by omega))) ?_
  refine my_bei (v := nI n) (hn) ?_
  refine lv_istore_n (lv' := [(2, .int (nI n)), (0, .ref (g 315)), (1, .int (nI fr))]) hx hb dX11_reads_6 rfl hl (by decide) rfl (fun ls hl => ?_)
  refine lv_aload_n hx hb dX11_reads_7 rfl (lv_at hl 1 rfl) ?_
  refine lv_iconst (v := 0) hx hb dX11_reads_8 (by decide) ?_
  refine va_put (D := G.1) (ci := 10) (v := .int 0) (ty := .int) (C := RX11) (T := TX11) (N := 25) hx hb hts inlX11 tyX11 tyX11_ok nmX11 hown hG.1 hP (wl_D hg f) hS 315 (wl_at (by decide) hmo) rfl 5 (by decide) (hts (.fieldLink RX11 106 "SwornListsModel" "steps" "I") w_349) (fun _ h9 => h9) rfl (by decide +kernel) rfl rfl (Nat.le_of_ble_eq_true rfl) dX11_reads_9 (fun H locs hP _ hS => ?_)
  obtain ⟨f_1, hP, e_1, o_1⟩ := b_put (by decide) hP
  have hmo : f_1 315 = eO 10 [.ref (g 316), .ref (g 317), .ref (g 318), .long ab2, .long be2, .int 0, .ref (g 319), .ref (g 320), .int wn, .ref (g 321), .ref (g 322), .int sa, .int ly, .int rdy, .int fd, .ref (g 323), .ref (g 324), .ref (g 325), .ref (g 326), .ref (g 327), .ref (g 328), .ref (g 329), .ref (g 330), .ref (g 331), .ref (g 332)] := e_1
  refine lv_aload_n hx hb dX11_reads_12 rfl (lv_at hl 1 rfl) ?_
  refine lv_iconst (v := 0) hx hb dX11_reads_13 (by decide) ?_
  refine va_put (D := G.1) (ci := 10) (v := .int 0) (ty := .int) (C := RX11) (T := TX11) (N := 25) hx hb hts inlX11 tyX11 tyX11_ok nmX11 hown hG.1 hP (wl_D hg f_1) hS 315 (wl_at (by decide) hmo) rfl 8 (by decide) (hts (.fieldLink RX11 110 "SwornListsModel" "waiting" "I") w_350) (fun _ h9 => h9) rfl (by decide +kernel) rfl rfl (Nat.le_of_ble_eq_true rfl) dX11_reads_14 (fun H locs hP _ hS => ?_)
  obtain ⟨f_2, hP, e_2, o_2⟩ := b_put (by decide) hP
  have hmo : f_2 315 = eO 10 [.ref (g 316), .ref (g 317), .ref (g 318), .long ab2, .long be2, .int 0, .ref (g 319), .ref (g 320), .int 0, .ref (g 321), .ref (g 322), .int sa, .int ly, .int rdy, .int fd, .ref (g 323), .ref (g 324), .ref (g 325), .ref (g 326), .ref (g 327), .ref (g 328), .ref (g 329), .ref (g 330), .ref (g 331), .ref (g 332)] := e_2
  refine lv_iconst (v := 0) hx hb dX11_reads_17 (by decide) ?_
  refine lv_istore_n (lv' := [(3, .int 0), (2, .int (nI n)), (0, .ref (g 315)), (1, .int (nI fr))]) hx hb dX11_reads_18 rfl hl (by decide) rfl (fun ls hl => ?_)
  refine lv_iconst (v := 0) hx hb dX11_reads_19 (by decide) ?_
  refine my_bei (v := b2 (false = true)) ((b2_f (by decide)).symm) ?_
  refine lv_istore (lv' := [(4, .int (b2 (false = true))), (3, .int 0), (2, .int (nI n)), (0, .ref (g 315)), (1, .int (nI fr))]) hx hb dX11_reads_20 hl (by decide) rfl (fun ls hl => ?_)
  refine lv_iconst (v := 0) hx hb dX11_reads_22 (by decide) ?_
  refine lv_istore (lv' := [(5, .int 0), (4, .int (b2 (false = true))), (3, .int 0), (2, .int (nI n)), (0, .ref (g 315)), (1, .int (nI fr))]) hx hb dX11_reads_23 hl (by decide) rfl (fun ls hl => ?_)
  replace hss_ := ((o_2 316 (by decide)).trans ((o_1 316 (by decide)))).trans hss_
  replace hsp_ := ((o_2 319 (by decide)).trans ((o_1 319 (by decide)))).trans hsp_
  replace hwi_ := ((o_2 320 (by decide)).trans ((o_1 320 (by decide)))).trans hwi_
  replace hwa_ := ((o_2 321 (by decide)).trans ((o_1 321 (by decide)))).trans hwa_
  have key1 : ∀ (n9_1 : Nat) (i : Nat) (op : Nat) (wh : Bool) (sn1 : Nat) (wn1 : Nat) (sp1 : Nat → Int32) (wi1 : Nat → Int32) (wa1 : Nat → Int32) (fl : Nat) (f_3 : Nat → va_E) (H : Heap) (locs : List Loc) (ls : Array Slot), (i ≤ n) → (op ≤ 8) → (sn1 + wn1 ≤ i) → (co (stk wa1 wn1) = op) → (vl (stk wa1 wn1)) → (wh = true → dep sp1 sn1 = some (nb (stk wa1 wn1) + 1)) → (wh = false → dep sp1 sn1 = some (nb (stk wa1 wn1))) → (3 * (n - i) + 1 ≤ fl) → (rdN n (fun k => ss (fr + k + 1)) fl i op wh (stk wa1 wn1) none = rdA n (fun k => ss (fr + k + 1))) → n - i < n9_1 → f_3 315 = eO 10 [.ref (g 316), .ref (g 317), .ref (g 318), .long ab2, .long be2, .int (nI sn1), .ref (g 319), .ref (g 320), .int (nI wn1), .ref (g 321), .ref (g 322), .int sa, .int ly, .int rdy, .int fd, .ref (g 323), .ref (g 324), .ref (g 325), .ref (g 326), .ref (g 327), .ref (g 328), .ref (g 329), .ref (g 330), .ref (g 331), .ref (g 332)] → f_3 316 = eI G 2246 ss → f_3 319 = eI G 70 sp1 → f_3 320 = eI G 70 wi1 → f_3 321 = eI G 70 wa1 → (∀ j, (j ≠ 315 ∧ j ≠ 319 ∧ j ≠ 320 ∧ j ≠ 321) → f_3 j = f_2 j) → va_P G.1 vwCl (wl g f_3) H → va_S (gA g) s.heap H locs → lv_has ls 9 [(0, .ref (g 315)), (1, .int (nI fr)), (2, .int (nI n)), (3, .int (nI op)), (4, .int (b2 (wh = true))), (5, .int (nI i))] → W p l e (headSpec (wsT yX11_reads cX11_reads 9 (some .int)) ({ frames := 3, cells := 0, slots := 0, locals := 65 })).room s m ([.ref (g 315), .int (nI fr)] : List Value).toArray below meth c H locs 0 0 (MQ below (bQi G g (fun (z9 : Int32) (f' : Nat → va_E) => ∃ sn9 : Nat, ∃ wn9 : Nat, ∃ sp9 : Nat → Int32, ∃ wi9 : Nat → Int32, ∃ wa9 : Nat → Int32, z9 = rdA n (fun k => ss (fr + k + 1)) ∧ f' 315 = eO 10 [.ref (g 316), .ref (g 317), .ref (g 318), .long ab2, .long be2, .int (nI sn9), .ref (g 319), .ref (g 320), .int (nI wn9), .ref (g 321), .ref (g 322), .int sa, .int ly, .int rdy, .int fd, .ref (g 323), .ref (g 324), .ref (g 325), .ref (g 326), .ref (g 327), .ref (g 328), .ref (g 329), .ref (g 330), .ref (g 331), .ref (g 332)] ∧ f' 319 = eI G 70 sp9 ∧ f' 320 = eI G 70 wi9 ∧ f' 321 = eI G 70 wa9 ∧ (rdA n (fun k => ss (fr + k + 1)) = -1 → dep sp9 sn9 = some 1 ∧ sn9 ≤ 50) ∧ ∀ j, (j ≠ 315 ∧ j ≠ 319 ∧ j ≠ 320 ∧ j ≠ 321) → f' j = f j)) ([.ref (g 315), .int (nI fr)] : List Value).toArray s 0 0 (gA g)) (F0 m 25 ls []) := by
    intro n9_1
    induction n9_1 with
    | zero => intro i op wh sn1 wn1 sp1 wi1 wa1 fl f_3 H locs ls hi hop hb1 hco hvl hd1 hd0 hfl hA hn9_1; exact absurd hn9_1 (Nat.not_lt_zero _)
    | succ n9_1 ih_1 =>
      intro i op wh sn1 wn1 sp1 wi1 wa1 fl f_3 H locs ls hi hop hb1 hco hvl hd1 hd0 hfl hA hn9_1 hmo hss_ hsp_ hwi_ hwa_ o_3 hP hS hl
      refine lv_iload hx hb dX11_reads_25 (lv_at hl 5 rfl) ?_
      refine lv_iload_n hx hb dX11_reads_27 rfl (lv_at hl 2 rfl) ?_
      refine lv_icmp_ge (tgt := 375) hx hb dX11_reads_28 (by decide) (fun c_28 => ?_) (fun c_28 => ?_)
      · have k_28 : n ≤ i := (nI_leI (a := n) (b := i) (by omega) (by omega)).mp c_28
        obtain ⟨fm, rfl⟩ : ∃ z, fl = z + 1 := ⟨fl - 1, by omega⟩
        refine lv_aload_n hx hb dX11_reads_375 rfl (lv_at hl 0 rfl) ?_
        refine lv_iconst (v := 1) hx hb dX11_reads_376 (by decide) ?_
        refine b_callv (va_runV (As := [.int 1]) (rest := []) ⟨hx, hb, hml, hown, hts⟩ (r_settles l G g hg f_3 ab2 be2 sn1 wn1 sa ly rdy fd sp1 wi1 wa1 1 hmo hsp_ hwi_ hwa_ (by first | assumption | omega | decide) (by decide)) (my_cwV hts ok_X11_settles w_353 rfl rfl ⟨Nat.le_of_ble_eq_true rfl, Nat.le_of_ble_eq_true rfl⟩) ⟨bP.blind, va_recv hG.1 hP (ci := 10) (q0 := 315) rfl (wl_at (by decide) hmo), fun U hU hW => ⟨rfl, by rw [hU]; exact hP, kG.warm hW hG⟩⟩ rfl rfl hl.1 rfl (lv_room (Nat.le_of_ble_eq_true rfl)) dX11_reads_377 ⟨Nat.le_of_ble_eq_true rfl, Nat.le_of_ble_eq_true rfl⟩) hS (fun f_4 H locs hq9 hP hS => ?_)
        obtain ⟨sn92, wn93, sp94, wi95, hq_4_0, hq_4_1, hq_4_2, hx_4_0, hx_4_1, hx_4_2, hx_4_3, o_4⟩ := hq9
        have hmo : f_4 315 = eO 10 [.ref (g 316), .ref (g 317), .ref (g 318), .long ab2, .long be2, .int (nI sn92), .ref (g 319), .ref (g 320), .int (nI wn93), .ref (g 321), .ref (g 322), .int sa, .int ly, .int rdy, .int fd, .ref (g 323), .ref (g 324), .ref (g 325), .ref (g 326), .ref (g 327), .ref (g 328), .ref (g 329), .ref (g 330), .ref (g 331), .ref (g 332)] := hq_4_0
        have hsp_ : f_4 319 = eI G 70 sp94 := hq_4_1
        have hwi_ : f_4 320 = eI G 70 wi95 := hq_4_2
        refine lv_iload hx hb dX11_reads_380 (lv_at hl 4 rfl) ?_
        refine my_ifeq (tgt := 393) hx hb dX11_reads_382 (by decide) (fun c_382 => ?_) (fun c_382 => ?_)
        · refine lv_bipush (v := 10) hx hb dX11_reads_393 (by decide) ?_
          refine lv_iload_n hx hb dX11_reads_395 rfl (lv_at hl 2 rfl) ?_
          refine lv_imul hx hb dX11_reads_396 ?_
          refine my_bei (v := nI (10 * n)) (pk_mul 10 n) ?_
          refine lv_iconst (v := 1) hx hb dX11_reads_397 (by decide) ?_
          refine lv_iadd hx hb dX11_reads_398 ?_
          refine my_bei (v := nI (10 * n + 1)) ((nI_add (10 * n) 1).trans (congrArg nI (show (10 * n) + 1 = 10 * n + 1 by omega))) ?_
          have heq : nI (10 * n + 1) = rdA n (fun k => ss (fr + k + 1)) := (rd_e0 (c := fun k => ss (fr + k + 1)) (i := i) (by omega) (fun z => c_382 z.1)).symm.trans hA
          replace hwa_ := ((o_4 321 (by first | decide | omega))).trans hwa_
          exact W.iret (v := nI (10 * n + 1)) hx hb hr (fun t ht hW => ⟨⟨_, f_4, rfl, (⟨sn92, wn93, sp94, wi95, wa1, heq, hmo, hsp_, hwi_, hwa_, fun z => absurd (heq.trans z) (nI_m1 (by omega)), fun j hj => ((((o_4 j (by omega))).trans (o_3 j (by omega))).trans (o_2 j (by omega))).trans (o_1 j (by omega))⟩), by rw [ht]; exact hP⟩, hS.F ht⟩) hS.2.2 dX11_reads_399
        · refine lv_iload_n hx hb dX11_reads_385 rfl (lv_at hl 3 rfl) ?_
          refine lv_if_ne (tgt := 393) hx hb dX11_reads_386 (by decide) (fun c_386 => ?_) (fun c_386 => ?_)
          · have k_386 : ¬ op = 0 := fun z9 => c_386 ((nI_eq (a := op) (b := 0) (by omega) (by omega)).mpr z9)
            refine lv_bipush (v := 10) hx hb dX11_reads_393 (by decide) ?_
            refine lv_iload_n hx hb dX11_reads_395 rfl (lv_at hl 2 rfl) ?_
            refine lv_imul hx hb dX11_reads_396 ?_
            refine my_bei (v := nI (10 * n)) (pk_mul 10 n) ?_
            refine lv_iconst (v := 1) hx hb dX11_reads_397 (by decide) ?_
            refine lv_iadd hx hb dX11_reads_398 ?_
            refine my_bei (v := nI (10 * n + 1)) ((nI_add (10 * n) 1).trans (congrArg nI (show (10 * n) + 1 = 10 * n + 1 by omega))) ?_
            have heq : nI (10 * n + 1) = rdA n (fun k => ss (fr + k + 1)) := (rd_e0 (c := fun k => ss (fr + k + 1)) (i := i) (by omega) (fun z => absurd z.2 (by omega))).symm.trans hA
            replace hwa_ := ((o_4 321 (by first | decide | omega))).trans hwa_
            exact W.iret (v := nI (10 * n + 1)) hx hb hr (fun t ht hW => ⟨⟨_, f_4, rfl, (⟨sn92, wn93, sp94, wi95, wa1, heq, hmo, hsp_, hwi_, hwa_, fun z => absurd (heq.trans z) (nI_m1 (by omega)), fun j hj => ((((o_4 j (by omega))).trans (o_3 j (by omega))).trans (o_2 j (by omega))).trans (o_1 j (by omega))⟩), by rw [ht]; exact hP⟩, hS.F ht⟩) hS.2.2 dX11_reads_399
          · have k_386 : op = 0 := (nI_eq (a := op) (b := 0) (by omega) (by omega)).mp c_386
            refine lv_iconst (v := (-1)) hx hb dX11_reads_389 (by decide) ?_
            refine lv_goto (tgt := 399) hx hb dX11_reads_390 (by decide) ?_
            have heq : (-1) = rdA n (fun k => ss (fr + k + 1)) := (rd_e1 (c := fun k => ss (fr + k + 1)) (i := i) (by omega) c_382 (by omega)).symm.trans hA
            replace hwa_ := ((o_4 321 (by first | decide | omega))).trans hwa_
            exact W.iret (v := (-1)) hx hb hr (fun t ht hW => ⟨⟨_, f_4, rfl, (⟨sn92, wn93, sp94, wi95, wa1, heq, hmo, hsp_, hwi_, hwa_, fun _ => ⟨by have h9 := hx_4_3 (hd1 c_382); rw [hx_4_2, pop1_e _ hvl (by omega)] at h9; exact h9, by omega⟩, fun j hj => ((((o_4 j (by omega))).trans (o_3 j (by omega))).trans (o_2 j (by omega))).trans (o_1 j (by omega))⟩), by rw [ht]; exact hP⟩, hS.F ht⟩) hS.2.2 dX11_reads_399
      · have k_28 : ¬ n ≤ i := fun z9 => c_28 ((nI_leI (a := n) (b := i) (by omega) (by omega)).mpr z9)
        obtain ⟨fm, rfl⟩ : ∃ z, fl = z + 1 := ⟨fl - 1, by omega⟩
        refine lv_aload_n hx hb dX11_reads_31 rfl (lv_at hl 0 rfl) ?_
        refine va_get (D := G.1) (ci := 10) (v := .ref (g 316)) (C := RX11) (T := TX11) (N := 25) hx hb hts inlX11 hown hG.1 hP 315 (wl_at (by decide) hmo) rfl 0 (by decide) (hts (.fieldLink RX11 7 "SwornListsModel" "st" "[I") w_112) (fun _ h9 => h9) rfl dX11_reads_32 ?_
        refine lv_iload_n hx hb dX11_reads_35 rfl (lv_at hl 1 rfl) ?_
        refine lv_iconst (v := 1) hx hb dX11_reads_36 (by decide) ?_
        refine lv_iadd hx hb dX11_reads_37 ?_
        refine my_bei (v := nI (fr + 1)) (nI_add fr 1) ?_
        refine lv_iload hx hb dX11_reads_38 (lv_at hl 5 rfl) ?_
        refine lv_iadd hx hb dX11_reads_40 ?_
        refine my_bei (v := nI (fr + i + 1)) ((nI_add (fr + 1) i).trans (congrArg nI (show (fr + 1) + i = fr + i + 1 by omega))) ?_
        refine va_iald hx hb hG.1 hP 316 0 (wl_at (by decide) hss_) rfl (vp_in_nI (by omega) (by decide)) dX11_reads_41 ?_
        refine my_bei (v := ss (fr + i + 1)) (congrArg ss (nI_clamp (n := fr + i + 1) (by omega))) ?_
        refine lv_istore (lv' := [(6, .int (ss (fr + i + 1))), (0, .ref (g 315)), (1, .int (nI fr)), (2, .int (nI n)), (3, .int (nI op)), (4, .int (b2 (wh = true))), (5, .int (nI i))]) hx hb dX11_reads_42 hl (by decide) rfl (fun ls hl => ?_)
        refine lv_iload hx hb dX11_reads_44 (lv_at hl 0 rfl) ?_
        refine lv_bipush (v := 32) hx hb dX11_reads_46 (by decide) ?_
        refine lv_icmp_ne (tgt := 57) hx hb dX11_reads_48 (by decide) (fun c_48 => ?_) (fun c_48 => ?_)
        · refine lv_iload hx hb dX11_reads_57 (lv_at hl 5 rfl) ?_
          refine my_ifeq (tgt := 141) hx hb dX11_reads_59 (by decide) (fun c_59 => ?_) (fun c_59 => ?_)
          · have hwf : wh = false := by
              cases wh with
              | false => rfl
              | true => exact absurd rfl c_59
            refine lv_iload hx hb dX11_reads_141 (lv_at hl 0 rfl) ?_
            refine lv_i2l hx hb dX11_reads_143 rfl ?_
            refine lv_ldc2 (v := 48) hx hb hown (hts (.constantLong RX11 133 (48)) w_351) dX11_reads_144 ?_
            refine my_bel (v := Int32.toInt64 48) (by decide) ?_
            refine lv_ldc2 (v := 57) hx hb hown (hts (.constantLong RX11 135 (57)) w_352) dX11_reads_147 ?_
            refine my_bel (v := Int32.toInt64 57) (by decide) ?_
            refine rd_calli (va_runS (As := [.long (Int32.toInt64 (ss (fr + i + 1))), .long (Int32.toInt64 48), .long (Int32.toInt64 57)]) (rest := []) ⟨hx, hb, hml, hown, hts⟩ (r_in l G g hg f_3 (ss (fr + i + 1)) 48 57  ) (my_cwS hts ok_X11_in w_162 rfl rfl ⟨Nat.le_of_ble_eq_true rfl, Nat.le_of_ble_eq_true rfl⟩) ⟨bP.blind, fun U hU hW => ⟨rfl, by rw [hU]; exact hP, kG.warm hW hG⟩⟩ rfl rfl hl.1 rfl (lv_room (Nat.le_of_ble_eq_true rfl)) dX11_reads_150 ⟨Nat.le_of_ble_eq_true rfl, Nat.le_of_ble_eq_true rfl⟩) (fun r hr9 => ?_)
            subst hr9
            refine my_ifeq (tgt := 258) hx hb dX11_reads_153 (by decide) (fun c_153 => ?_) (fun c_153 => ?_)
            · refine lv_iload hx hb dX11_reads_258 (lv_at hl 0 rfl) ?_
              refine rd_calli (va_runS (As := [.int (ss (fr + i + 1))]) (rest := []) ⟨hx, hb, hml, hown, hts⟩ (r_nameOf l G g hg f_3 (ss (fr + i + 1))  ) (my_cwS hts ok_X11_nameOf w_375 rfl rfl ⟨Nat.le_of_ble_eq_true rfl, Nat.le_of_ble_eq_true rfl⟩) ⟨bP.blind, fun U hU hW => ⟨rfl, by rw [hU]; exact hP, kG.warm hW hG⟩⟩ rfl rfl hl.1 rfl (lv_room (Nat.le_of_ble_eq_true rfl)) dX11_reads_260 ⟨Nat.le_of_ble_eq_true rfl, Nat.le_of_ble_eq_true rfl⟩) (fun r hr9 => ?_)
              subst hr9
              refine lv_iconst (v := (-1)) hx hb dX11_reads_263 (by decide) ?_
              refine lv_icmp_eq (tgt := 292) hx hb dX11_reads_264 (by decide) (fun c_264 => ?_) (fun c_264 => ?_)
              · refine lv_iload hx hb dX11_reads_292 (lv_at hl 0 rfl) ?_
                refine lv_bipush (v := 40) hx hb dX11_reads_294 (by decide) ?_
                refine lv_icmp_ne (tgt := 328) hx hb dX11_reads_296 (by decide) (fun c_296 => ?_) (fun c_296 => ?_)
                · refine lv_iload hx hb dX11_reads_328 (lv_at hl 0 rfl) ?_
                  refine lv_bipush (v := 45) hx hb dX11_reads_330 (by decide) ?_
                  refine lv_icmp_eq (tgt := 342) hx hb dX11_reads_332 (by decide) (fun c_332 => ?_) (fun c_332 => ?_)
                  · refine lv_aload_n hx hb dX11_reads_342 rfl (lv_at hl 1 rfl) ?_
                    refine lv_iload hx hb dX11_reads_343 (lv_at hl 0 rfl) ?_
                    refine lv_bipush (v := 45) hx hb dX11_reads_345 (by decide) ?_
                    refine lv_icmp_ne (tgt := 354) hx hb dX11_reads_347 (by decide) (fun c_347 => absurd (c_332) c_347) (fun c_347 => ?_)
                    refine lv_iconst (v := 3) hx hb dX11_reads_350 (by decide) ?_
                    refine lv_goto (tgt := 355) hx hb dX11_reads_351 (by decide) ?_
                    refine b_callv (va_runV (As := [.int 3]) (rest := []) ⟨hx, hb, hml, hown, hts⟩ (r_waitsWith l G g hg f_3 ab2 be2 sn1 wn1 sa ly rdy fd wa1 3 hmo hwa_ (by first | assumption | omega | decide)) (my_cwV hts ok_X11_waitsWith w_371 rfl rfl ⟨Nat.le_of_ble_eq_true rfl, Nat.le_of_ble_eq_true rfl⟩) ⟨bP.blind, va_recv hG.1 hP (ci := 10) (q0 := 315) rfl (wl_at (by decide) hmo), fun U hU hW => ⟨rfl, by rw [hU]; exact hP, kG.warm hW hG⟩⟩ rfl rfl hl.1 rfl (lv_room (Nat.le_of_ble_eq_true rfl)) dX11_reads_355 ⟨Nat.le_of_ble_eq_true rfl, Nat.le_of_ble_eq_true rfl⟩) hS (fun f_5 H locs hq9 hP hS => ?_)
                    obtain ⟨hq_5_0, hq_5_1, o_5⟩ := hq9
                    have hmo : f_5 315 = eO 10 [.ref (g 316), .ref (g 317), .ref (g 318), .long ab2, .long be2, .int (nI sn1), .ref (g 319), .ref (g 320), .int (nI (wn1 + 1)), .ref (g 321), .ref (g 322), .int sa, .int ly, .int rdy, .int fd, .ref (g 323), .ref (g 324), .ref (g 325), .ref (g 326), .ref (g 327), .ref (g 328), .ref (g 329), .ref (g 330), .ref (g 331), .ref (g 332)] := hq_5_0
                    have hwa_ : f_5 321 = eI G 70 (upd wa1 wn1 3) := hq_5_1
                    refine lv_iinc (v := nI (i + 1)) (lv' := [(5, .int (nI (i + 1))), (6, .int (ss (fr + i + 1))), (0, .ref (g 315)), (1, .int (nI fr)), (2, .int (nI n)), (3, .int (nI op)), (4, .int (b2 (wh = true)))]) hx hb dX11_reads_358 hl (k := 6) rfl (nI_add i 1) (by decide) rfl (fun ls hl => ?_)
                    refine lv_goto (tgt := 372) hx hb dX11_reads_361 (by decide) ?_
                    refine lv_goto (tgt := 25) hx hb dX11_reads_372 (by decide) ?_
                    replace hss_ := ((o_5 316 (by first | decide | omega))).trans hss_
                    replace hsp_ := ((o_5 319 (by first | decide | omega))).trans hsp_
                    replace hwi_ := ((o_5 320 (by first | decide | omega))).trans hwi_
                    exact ih_1 (i + 1) op wh sn1 (wn1 + 1) sp1 wi1 (upd wa1 wn1 3) (fm) f_5 _ _ _ (by omega) (by omega) (by omega) (by rw [stk_p, co_u (by decide)]; exact hco) (by rw [stk_p]; exact ⟨Or.inr (by decide), hvl⟩) (fun z => absurd z c_59) (fun _ => by rw [stk_p, nb_u (Or.inr (Or.inl rfl))]; exact hd0 hwf) (by omega) (by rw [stk_p]; exact (rd_mi (c := fun k => ss (fr + k + 1)) (i := i) (by omega) c_48 c_59 c_153 c_264 c_296 c_332).symm.trans hA) (by omega) (hmo) (hss_) (hsp_) (hwi_) (hwa_) (fun j hj => ((o_5 j (by omega))).trans (o_3 j (by omega))) hP hS (lv_sub hl [2, 3, 4, 5, 6, 0] rfl)
                  · refine lv_iload hx hb dX11_reads_335 (lv_at hl 0 rfl) ?_
                    refine lv_bipush (v := 33) hx hb dX11_reads_337 (by decide) ?_
                    refine lv_icmp_ne (tgt := 364) hx hb dX11_reads_339 (by decide) (fun c_339 => ?_) (fun c_339 => ?_)
                    · refine lv_bipush (v := 10) hx hb dX11_reads_364 (by decide) ?_
                      refine lv_iload hx hb dX11_reads_366 (lv_at hl 6 rfl) ?_
                      refine lv_imul hx hb dX11_reads_368 ?_
                      refine my_bei (v := nI (10 * i)) (pk_mul 10 i) ?_
                      refine lv_iconst (v := 1) hx hb dX11_reads_369 (by decide) ?_
                      refine lv_iadd hx hb dX11_reads_370 ?_
                      refine my_bei (v := nI (10 * i + 1)) ((nI_add (10 * i) 1).trans (congrArg nI (show (10 * i) + 1 = 10 * i + 1 by omega))) ?_
                      have heq : nI (10 * i + 1) = rdA n (fun k => ss (fr + k + 1)) := (rd_b2 (c := fun k => ss (fr + k + 1)) (i := i) (by omega) c_48 c_59 c_153 c_264 c_296 c_332 c_339).symm.trans hA
                      exact W.iret (v := nI (10 * i + 1)) hx hb hr (fun t ht hW => ⟨⟨_, f_3, rfl, (⟨sn1, wn1, sp1, wi1, wa1, heq, hmo, hsp_, hwi_, hwa_, fun z => absurd (heq.trans z) (nI_m1 (by omega)), fun j hj => (((o_3 j (by omega))).trans (o_2 j (by omega))).trans (o_1 j (by omega))⟩), by rw [ht]; exact hP⟩, hS.F ht⟩) hS.2.2 dX11_reads_371
                    · refine lv_aload_n hx hb dX11_reads_342 rfl (lv_at hl 1 rfl) ?_
                      refine lv_iload hx hb dX11_reads_343 (lv_at hl 0 rfl) ?_
                      refine lv_bipush (v := 45) hx hb dX11_reads_345 (by decide) ?_
                      refine lv_icmp_ne (tgt := 354) hx hb dX11_reads_347 (by decide) (fun c_347 => ?_) (fun c_347 => absurd c_347 (c_332))
                      refine lv_iconst (v := 2) hx hb dX11_reads_354 (by decide) ?_
                      refine b_callv (va_runV (As := [.int 2]) (rest := []) ⟨hx, hb, hml, hown, hts⟩ (r_waitsWith l G g hg f_3 ab2 be2 sn1 wn1 sa ly rdy fd wa1 2 hmo hwa_ (by first | assumption | omega | decide)) (my_cwV hts ok_X11_waitsWith w_371 rfl rfl ⟨Nat.le_of_ble_eq_true rfl, Nat.le_of_ble_eq_true rfl⟩) ⟨bP.blind, va_recv hG.1 hP (ci := 10) (q0 := 315) rfl (wl_at (by decide) hmo), fun U hU hW => ⟨rfl, by rw [hU]; exact hP, kG.warm hW hG⟩⟩ rfl rfl hl.1 rfl (lv_room (Nat.le_of_ble_eq_true rfl)) dX11_reads_355 ⟨Nat.le_of_ble_eq_true rfl, Nat.le_of_ble_eq_true rfl⟩) hS (fun f_6 H locs hq9 hP hS => ?_)
                      obtain ⟨hq_6_0, hq_6_1, o_6⟩ := hq9
                      have hmo : f_6 315 = eO 10 [.ref (g 316), .ref (g 317), .ref (g 318), .long ab2, .long be2, .int (nI sn1), .ref (g 319), .ref (g 320), .int (nI (wn1 + 1)), .ref (g 321), .ref (g 322), .int sa, .int ly, .int rdy, .int fd, .ref (g 323), .ref (g 324), .ref (g 325), .ref (g 326), .ref (g 327), .ref (g 328), .ref (g 329), .ref (g 330), .ref (g 331), .ref (g 332)] := hq_6_0
                      have hwa_ : f_6 321 = eI G 70 (upd wa1 wn1 2) := hq_6_1
                      refine lv_iinc (v := nI (i + 1)) (lv' := [(5, .int (nI (i + 1))), (6, .int (ss (fr + i + 1))), (0, .ref (g 315)), (1, .int (nI fr)), (2, .int (nI n)), (3, .int (nI op)), (4, .int (b2 (wh = true)))]) hx hb dX11_reads_358 hl (k := 6) rfl (nI_add i 1) (by decide) rfl (fun ls hl => ?_)
                      refine lv_goto (tgt := 372) hx hb dX11_reads_361 (by decide) ?_
                      refine lv_goto (tgt := 25) hx hb dX11_reads_372 (by decide) ?_
                      replace hss_ := ((o_6 316 (by first | decide | omega))).trans hss_
                      replace hsp_ := ((o_6 319 (by first | decide | omega))).trans hsp_
                      replace hwi_ := ((o_6 320 (by first | decide | omega))).trans hwi_
                      exact ih_1 (i + 1) op wh sn1 (wn1 + 1) sp1 wi1 (upd wa1 wn1 2) (fm) f_6 _ _ _ (by omega) (by omega) (by omega) (by rw [stk_p, co_u (by decide)]; exact hco) (by rw [stk_p]; exact ⟨Or.inr (by decide), hvl⟩) (fun z => absurd z c_59) (fun _ => by rw [stk_p, nb_u (Or.inl rfl)]; exact hd0 hwf) (by omega) (by rw [stk_p]; exact (rd_no (c := fun k => ss (fr + k + 1)) (i := i) (by omega) c_48 c_59 c_153 c_264 c_296 c_332 c_339).symm.trans hA) (by omega) (hmo) (hss_) (hsp_) (hwi_) (hwa_) (fun j hj => ((o_6 j (by omega))).trans (o_3 j (by omega))) hP hS (lv_sub hl [2, 3, 4, 5, 6, 0] rfl)
                · refine lv_iload_n hx hb dX11_reads_299 rfl (lv_at hl 4 rfl) ?_
                  refine lv_bipush (v := 8) hx hb dX11_reads_300 (by decide) ?_
                  refine lv_icmp_ne (tgt := 313) hx hb dX11_reads_302 (by decide) (fun c_302 => ?_) (fun c_302 => ?_)
                  · have k_302 : ¬ op = 8 := fun z9 => c_302 ((nI_eq (a := op) (b := 8) (by omega) (by omega)).mpr z9)
                    refine lv_iinc (v := nI (op + 1)) (lv' := [(3, .int (nI (op + 1))), (6, .int (ss (fr + i + 1))), (0, .ref (g 315)), (1, .int (nI fr)), (2, .int (nI n)), (4, .int (b2 (wh = true))), (5, .int (nI i))]) hx hb dX11_reads_313 hl (k := 4) rfl (nI_add op 1) (by decide) rfl (fun ls hl => ?_)
                    refine lv_aload_n hx hb dX11_reads_316 rfl (lv_at hl 2 rfl) ?_
                    refine lv_bipush (v := 13) hx hb dX11_reads_317 (by decide) ?_
                    refine b_callv (va_runV (As := [.int 13]) (rest := []) ⟨hx, hb, hml, hown, hts⟩ (r_waitsWith l G g hg f_3 ab2 be2 sn1 wn1 sa ly rdy fd wa1 13 hmo hwa_ (by first | assumption | omega | decide)) (my_cwV hts ok_X11_waitsWith w_371 rfl rfl ⟨Nat.le_of_ble_eq_true rfl, Nat.le_of_ble_eq_true rfl⟩) ⟨bP.blind, va_recv hG.1 hP (ci := 10) (q0 := 315) rfl (wl_at (by decide) hmo), fun U hU hW => ⟨rfl, by rw [hU]; exact hP, kG.warm hW hG⟩⟩ rfl rfl hl.1 rfl (lv_room (Nat.le_of_ble_eq_true rfl)) dX11_reads_319 ⟨Nat.le_of_ble_eq_true rfl, Nat.le_of_ble_eq_true rfl⟩) hS (fun f_7 H locs hq9 hP hS => ?_)
                    obtain ⟨hq_7_0, hq_7_1, o_7⟩ := hq9
                    have hmo : f_7 315 = eO 10 [.ref (g 316), .ref (g 317), .ref (g 318), .long ab2, .long be2, .int (nI sn1), .ref (g 319), .ref (g 320), .int (nI (wn1 + 1)), .ref (g 321), .ref (g 322), .int sa, .int ly, .int rdy, .int fd, .ref (g 323), .ref (g 324), .ref (g 325), .ref (g 326), .ref (g 327), .ref (g 328), .ref (g 329), .ref (g 330), .ref (g 331), .ref (g 332)] := hq_7_0
                    have hwa_ : f_7 321 = eI G 70 (upd wa1 wn1 13) := hq_7_1
                    refine lv_iinc (v := nI (i + 1)) (lv' := [(5, .int (nI (i + 1))), (3, .int (nI (op + 1))), (6, .int (ss (fr + i + 1))), (0, .ref (g 315)), (1, .int (nI fr)), (2, .int (nI n)), (4, .int (b2 (wh = true)))]) hx hb dX11_reads_322 hl (k := 6) rfl (nI_add i 1) (by decide) rfl (fun ls hl => ?_)
                    refine lv_goto (tgt := 372) hx hb dX11_reads_325 (by decide) ?_
                    refine lv_goto (tgt := 25) hx hb dX11_reads_372 (by decide) ?_
                    replace hss_ := ((o_7 316 (by first | decide | omega))).trans hss_
                    replace hsp_ := ((o_7 319 (by first | decide | omega))).trans hsp_
                    replace hwi_ := ((o_7 320 (by first | decide | omega))).trans hwi_
                    exact ih_1 (i + 1) (op + 1) wh sn1 (wn1 + 1) sp1 wi1 (upd wa1 wn1 13) (fm) f_7 _ _ _ (by omega) (by omega) (by omega) (by rw [stk_p, co_13, hco]) (by rw [stk_p]; exact ⟨Or.inl rfl, hvl⟩) (fun z => absurd z c_59) (fun _ => by rw [stk_p, nb_u (Or.inr (Or.inr rfl))]; exact hd0 hwf) (by omega) (by rw [stk_p]; exact (rd_op (c := fun k => ss (fr + k + 1)) (i := i) (by omega) c_48 c_59 c_153 c_264 c_296 (by omega)).symm.trans hA) (by omega) (hmo) (hss_) (hsp_) (hwi_) (hwa_) (fun j hj => ((o_7 j (by omega))).trans (o_3 j (by omega))) hP hS (lv_sub hl [3, 4, 5, 1, 6, 0] rfl)
                  · have k_302 : op = 8 := (nI_eq (a := op) (b := 8) (by omega) (by omega)).mp c_302
                    refine lv_bipush (v := 10) hx hb dX11_reads_305 (by decide) ?_
                    refine lv_iload hx hb dX11_reads_307 (lv_at hl 6 rfl) ?_
                    refine lv_imul hx hb dX11_reads_309 ?_
                    refine my_bei (v := nI (10 * i)) (pk_mul 10 i) ?_
                    refine lv_iconst (v := 3) hx hb dX11_reads_310 (by decide) ?_
                    refine lv_iadd hx hb dX11_reads_311 ?_
                    refine my_bei (v := nI (10 * i + 3)) ((nI_add (10 * i) 3).trans (congrArg nI (show (10 * i) + 3 = 10 * i + 3 by omega))) ?_
                    have heq : nI (10 * i + 3) = rdA n (fun k => ss (fr + k + 1)) := (rd_o8 (c := fun k => ss (fr + k + 1)) (i := i) (by omega) c_48 c_59 c_153 c_264 c_296 (by omega)).symm.trans hA
                    exact W.iret (v := nI (10 * i + 3)) hx hb hr (fun t ht hW => ⟨⟨_, f_3, rfl, (⟨sn1, wn1, sp1, wi1, wa1, heq, hmo, hsp_, hwi_, hwa_, fun z => absurd (heq.trans z) (nI_m1 (by omega)), fun j hj => (((o_3 j (by omega))).trans (o_2 j (by omega))).trans (o_1 j (by omega))⟩), by rw [ht]; exact hP⟩, hS.F ht⟩) hS.2.2 dX11_reads_312
              · refine lv_aload_n hx hb dX11_reads_267 rfl (lv_at hl 1 rfl) ?_
                refine lv_iconst (v := 1) hx hb dX11_reads_268 (by decide) ?_
                refine lv_iload hx hb dX11_reads_269 (lv_at hl 0 rfl) ?_
                refine rd_calli (va_runS (As := [.int (ss (fr + i + 1))]) (rest := [.int 1, .ref (g 315)]) ⟨hx, hb, hml, hown, hts⟩ (r_nameOf l G g hg f_3 (ss (fr + i + 1))  ) (my_cwS hts ok_X11_nameOf w_375 rfl rfl ⟨Nat.le_of_ble_eq_true rfl, Nat.le_of_ble_eq_true rfl⟩) ⟨bP.blind, fun U hU hW => ⟨rfl, by rw [hU]; exact hP, kG.warm hW hG⟩⟩ rfl rfl hl.1 rfl (lv_room (Nat.le_of_ble_eq_true rfl)) dX11_reads_271 ⟨Nat.le_of_ble_eq_true rfl, Nat.le_of_ble_eq_true rfl⟩) (fun r hr9 => ?_)
                subst hr9
                refine b_callv (va_runV (As := [.int 1, .int (nam (ss (fr + i + 1)))]) (rest := []) ⟨hx, hb, hml, hown, hts⟩ (r_emits l G g hg f_3 ab2 be2 sn1 wn1 sa ly rdy fd sp1 wi1 1 (nam (ss (fr + i + 1))) hmo hsp_ hwi_ (by first | assumption | omega | decide)) (my_cwV hts ok_X11_emits w_360 rfl rfl ⟨Nat.le_of_ble_eq_true rfl, Nat.le_of_ble_eq_true rfl⟩) ⟨bP.blind, va_recv hG.1 hP (ci := 10) (q0 := 315) rfl (wl_at (by decide) hmo), fun U hU hW => ⟨rfl, by rw [hU]; exact hP, kG.warm hW hG⟩⟩ rfl rfl hl.1 rfl (lv_room (Nat.le_of_ble_eq_true rfl)) dX11_reads_274 ⟨Nat.le_of_ble_eq_true rfl, Nat.le_of_ble_eq_true rfl⟩) hS (fun f_8 H locs hq9 hP hS => ?_)
                obtain ⟨hq_8_0, hq_8_1, hq_8_2, o_8⟩ := hq9
                have hmo : f_8 315 = eO 10 [.ref (g 316), .ref (g 317), .ref (g 318), .long ab2, .long be2, .int (nI (sn1 + 1)), .ref (g 319), .ref (g 320), .int (nI wn1), .ref (g 321), .ref (g 322), .int sa, .int ly, .int rdy, .int fd, .ref (g 323), .ref (g 324), .ref (g 325), .ref (g 326), .ref (g 327), .ref (g 328), .ref (g 329), .ref (g 330), .ref (g 331), .ref (g 332)] := hq_8_0
                have hsp_ : f_8 319 = eI G 70 (upd sp1 sn1 1) := hq_8_1
                have hwi_ : f_8 320 = eI G 70 (upd wi1 sn1 (nam (ss (fr + i + 1)))) := hq_8_2
                refine lv_aload_n hx hb dX11_reads_277 rfl (lv_at hl 1 rfl) ?_
                refine lv_bipush (v := 6) hx hb dX11_reads_278 (by decide) ?_
                replace hwa_ := ((o_8 321 (by first | decide | omega))).trans hwa_
                refine b_callv (va_runV (As := [.int 6]) (rest := []) ⟨hx, hb, hml, hown, hts⟩ (r_settles l G g hg f_8 ab2 be2 (sn1 + 1) wn1 sa ly rdy fd (upd sp1 sn1 1) (upd wi1 sn1 (nam (ss (fr + i + 1)))) wa1 6 hmo hsp_ hwi_ hwa_ (by first | assumption | omega | decide) (by decide)) (my_cwV hts ok_X11_settles w_353 rfl rfl ⟨Nat.le_of_ble_eq_true rfl, Nat.le_of_ble_eq_true rfl⟩) ⟨bP.blind, va_recv hG.1 hP (ci := 10) (q0 := 315) rfl (wl_at (by decide) hmo), fun U hU hW => ⟨rfl, by rw [hU]; exact hP, kG.warm hW hG⟩⟩ rfl rfl hl.1 rfl (lv_room (Nat.le_of_ble_eq_true rfl)) dX11_reads_280 ⟨Nat.le_of_ble_eq_true rfl, Nat.le_of_ble_eq_true rfl⟩) hS (fun f_9 H locs hq9 hP hS => ?_)
                obtain ⟨sn96, wn97, sp98, wi99, hq_9_0, hq_9_1, hq_9_2, hx_9_0, hx_9_1, hx_9_2, hx_9_3, o_9⟩ := hq9
                have hmo : f_9 315 = eO 10 [.ref (g 316), .ref (g 317), .ref (g 318), .long ab2, .long be2, .int (nI sn96), .ref (g 319), .ref (g 320), .int (nI wn97), .ref (g 321), .ref (g 322), .int sa, .int ly, .int rdy, .int fd, .ref (g 323), .ref (g 324), .ref (g 325), .ref (g 326), .ref (g 327), .ref (g 328), .ref (g 329), .ref (g 330), .ref (g 331), .ref (g 332)] := hq_9_0
                have hsp_ : f_9 319 = eI G 70 sp98 := hq_9_1
                have hwi_ : f_9 320 = eI G 70 wi99 := hq_9_2
                refine lv_iconst (v := 1) hx hb dX11_reads_283 (by decide) ?_
                refine my_bei (v := b2 (true = true)) ((b2_t rfl).symm) ?_
                refine lv_istore (lv' := [(4, .int (b2 (true = true))), (6, .int (ss (fr + i + 1))), (0, .ref (g 315)), (1, .int (nI fr)), (2, .int (nI n)), (3, .int (nI op)), (5, .int (nI i))]) hx hb dX11_reads_284 hl (by decide) rfl (fun ls hl => ?_)
                refine lv_iinc (v := nI (i + 1)) (lv' := [(5, .int (nI (i + 1))), (4, .int (b2 (true = true))), (6, .int (ss (fr + i + 1))), (0, .ref (g 315)), (1, .int (nI fr)), (2, .int (nI n)), (3, .int (nI op))]) hx hb dX11_reads_286 hl (k := 6) rfl (nI_add i 1) (by decide) rfl (fun ls hl => ?_)
                refine lv_goto (tgt := 372) hx hb dX11_reads_289 (by decide) ?_
                refine lv_goto (tgt := 25) hx hb dX11_reads_372 (by decide) ?_
                replace hss_ := ((o_9 316 (by first | decide | omega)).trans ((o_8 316 (by first | decide | omega)))).trans hss_
                replace hwa_ := ((o_9 321 (by first | decide | omega))).trans hwa_
                exact ih_1 (i + 1) op true sn96 wn97 sp98 wi99 wa1 (fm) f_9 _ _ _ (by omega) (by omega) (by omega) (by rw [hx_9_2, co_pop (by decide)]; exact hco) (by rw [hx_9_2]; exact vl_pop _ hvl) (fun _ => hx_9_3 (dep_v (hd0 hwf) (Or.inr rfl))) (fun z => Bool.noConfusion z) (by omega) (by rw [hx_9_2]; exact (rd_nm (c := fun k => ss (fr + k + 1)) (i := i) (by omega) c_48 c_59 c_153 c_264).symm.trans hA) (by omega) (hmo) (hss_) (hsp_) (hwi_) (hwa_) (fun j hj => (((o_9 j (by omega))).trans (o_8 j (by omega))).trans (o_3 j (by omega))) hP hS (lv_sub hl [3, 4, 5, 6, 1, 0] rfl)
            · refine lv_iload hx hb dX11_reads_156 (lv_at hl 6 rfl) ?_
              refine lv_istore (lv' := [(7, .int (nI i)), (6, .int (ss (fr + i + 1))), (0, .ref (g 315)), (1, .int (nI fr)), (2, .int (nI n)), (3, .int (nI op)), (4, .int (b2 (wh = true))), (5, .int (nI i))]) hx hb dX11_reads_158 hl (by decide) rfl (fun ls hl => ?_)
              refine lv_iconst (v := 0) hx hb dX11_reads_160 (by decide) ?_
              refine lv_istore (lv' := [(8, .int 0), (7, .int (nI i)), (6, .int (ss (fr + i + 1))), (0, .ref (g 315)), (1, .int (nI fr)), (2, .int (nI n)), (3, .int (nI op)), (4, .int (b2 (wh = true))), (5, .int (nI i))]) hx hb dX11_reads_161 hl (by decide) rfl (fun ls hl => ?_)
              have key10 : ∀ (n9_10 : Nat) (i2 : Nat) (u : Int32) (fl2 : Nat) (f_10 : Nat → va_E) (H : Heap) (locs : List Loc) (ls : Array Slot), (i ≤ i2 ∧ i2 ≤ n) → ((i2 = i ∧ 3 * (n - i2) ≤ fl2) ∨ (i < i2 ∧ 3 * (n - i2) + 2 ≤ fl2)) → (rdN n (fun k => ss (fr + k + 1)) fl2 i2 op wh (stk wa1 wn1) (some i) = rdA n (fun k => ss (fr + k + 1))) → n - i2 < n9_10 → f_10 315 = eO 10 [.ref (g 316), .ref (g 317), .ref (g 318), .long ab2, .long be2, .int (nI sn1), .ref (g 319), .ref (g 320), .int (nI wn1), .ref (g 321), .ref (g 322), .int sa, .int ly, .int rdy, .int fd, .ref (g 323), .ref (g 324), .ref (g 325), .ref (g 326), .ref (g 327), .ref (g 328), .ref (g 329), .ref (g 330), .ref (g 331), .ref (g 332)] → f_10 316 = eI G 2246 ss → f_10 319 = eI G 70 sp1 → f_10 320 = eI G 70 wi1 → f_10 321 = eI G 70 wa1 → (∀ j, (j < 333 ∨ 333 ≤ j) → f_10 j = f_3 j) → va_P G.1 vwCl (wl g f_10) H → va_S (gA g) s.heap H locs → lv_has ls 9 [(0, .ref (g 315)), (1, .int (nI fr)), (2, .int (nI n)), (3, .int (nI op)), (4, .int (b2 (wh = true))), (5, .int (nI i2)), (7, .int (nI i)), (8, .int u)] → W p l e (headSpec (wsT yX11_reads cX11_reads 9 (some .int)) ({ frames := 3, cells := 0, slots := 0, locals := 65 })).room s m ([.ref (g 315), .int (nI fr)] : List Value).toArray below meth c H locs 0 0 (MQ below (bQi G g (fun (z9 : Int32) (f' : Nat → va_E) => ∃ sn9 : Nat, ∃ wn9 : Nat, ∃ sp9 : Nat → Int32, ∃ wi9 : Nat → Int32, ∃ wa9 : Nat → Int32, z9 = rdA n (fun k => ss (fr + k + 1)) ∧ f' 315 = eO 10 [.ref (g 316), .ref (g 317), .ref (g 318), .long ab2, .long be2, .int (nI sn9), .ref (g 319), .ref (g 320), .int (nI wn9), .ref (g 321), .ref (g 322), .int sa, .int ly, .int rdy, .int fd, .ref (g 323), .ref (g 324), .ref (g 325), .ref (g 326), .ref (g 327), .ref (g 328), .ref (g 329), .ref (g 330), .ref (g 331), .ref (g 332)] ∧ f' 319 = eI G 70 sp9 ∧ f' 320 = eI G 70 wi9 ∧ f' 321 = eI G 70 wa9 ∧ (rdA n (fun k => ss (fr + k + 1)) = -1 → dep sp9 sn9 = some 1 ∧ sn9 ≤ 50) ∧ ∀ j, (j ≠ 315 ∧ j ≠ 319 ∧ j ≠ 320 ∧ j ≠ 321) → f' j = f j)) ([.ref (g 315), .int (nI fr)] : List Value).toArray s 0 0 (gA g)) (F0 m 163 ls []) := by
                intro n9_10
                induction n9_10 with
                | zero => intro i2 u fl2 f_10 H locs ls hi2 hf2 hA2 hn9_10; exact absurd hn9_10 (Nat.not_lt_zero _)
                | succ n9_10 ih_10 =>
                  intro i2 u fl2 f_10 H locs ls hi2 hf2 hA2 hn9_10 hmo hss_ hsp_ hwi_ hwa_ o_10 hP hS hl
                  refine lv_iload hx hb dX11_reads_163 (lv_at hl 5 rfl) ?_
                  obtain ⟨fm2, rfl⟩ : ∃ z, fl2 = z + 1 := ⟨fl2 - 1, by omega⟩
                  refine lv_iload_n hx hb dX11_reads_165 rfl (lv_at hl 2 rfl) ?_
                  refine lv_icmp_ge (tgt := 239) hx hb dX11_reads_166 (by decide) (fun c_166 => ?_) (fun c_166 => ?_)
                  · have k_166 : n ≤ i2 := (nI_leI (a := n) (b := i2) (by omega) (by omega)).mp c_166
                    have hlt9 : i < i2 := by omega
                    refine lv_aload_n hx hb dX11_reads_239 rfl (lv_at hl 0 rfl) ?_
                    refine lv_iconst (v := 0) hx hb dX11_reads_240 (by decide) ?_
                    refine lv_iload hx hb dX11_reads_241 (lv_at hl 7 rfl) ?_
                    refine b_callv (va_runV (As := [.int 0, .int u]) (rest := []) ⟨hx, hb, hml, hown, hts⟩ (r_emits l G g hg f_10 ab2 be2 sn1 wn1 sa ly rdy fd sp1 wi1 0 u hmo hsp_ hwi_ (by first | assumption | omega | decide)) (my_cwV hts ok_X11_emits w_360 rfl rfl ⟨Nat.le_of_ble_eq_true rfl, Nat.le_of_ble_eq_true rfl⟩) ⟨bP.blind, va_recv hG.1 hP (ci := 10) (q0 := 315) rfl (wl_at (by decide) hmo), fun U hU hW => ⟨rfl, by rw [hU]; exact hP, kG.warm hW hG⟩⟩ rfl rfl hl.1 rfl (lv_room (Nat.le_of_ble_eq_true rfl)) dX11_reads_243 ⟨Nat.le_of_ble_eq_true rfl, Nat.le_of_ble_eq_true rfl⟩) hS (fun f_11 H locs hq9 hP hS => ?_)
                    obtain ⟨hq_11_0, hq_11_1, hq_11_2, o_11⟩ := hq9
                    have hmo : f_11 315 = eO 10 [.ref (g 316), .ref (g 317), .ref (g 318), .long ab2, .long be2, .int (nI (sn1 + 1)), .ref (g 319), .ref (g 320), .int (nI wn1), .ref (g 321), .ref (g 322), .int sa, .int ly, .int rdy, .int fd, .ref (g 323), .ref (g 324), .ref (g 325), .ref (g 326), .ref (g 327), .ref (g 328), .ref (g 329), .ref (g 330), .ref (g 331), .ref (g 332)] := hq_11_0
                    have hsp_ : f_11 319 = eI G 70 (upd sp1 sn1 0) := hq_11_1
                    have hwi_ : f_11 320 = eI G 70 (upd wi1 sn1 u) := hq_11_2
                    refine lv_aload_n hx hb dX11_reads_246 rfl (lv_at hl 0 rfl) ?_
                    refine lv_bipush (v := 6) hx hb dX11_reads_247 (by decide) ?_
                    replace hwa_ := ((o_11 321 (by first | decide | omega))).trans hwa_
                    refine b_callv (va_runV (As := [.int 6]) (rest := []) ⟨hx, hb, hml, hown, hts⟩ (r_settles l G g hg f_11 ab2 be2 (sn1 + 1) wn1 sa ly rdy fd (upd sp1 sn1 0) (upd wi1 sn1 u) wa1 6 hmo hsp_ hwi_ hwa_ (by first | assumption | omega | decide) (by decide)) (my_cwV hts ok_X11_settles w_353 rfl rfl ⟨Nat.le_of_ble_eq_true rfl, Nat.le_of_ble_eq_true rfl⟩) ⟨bP.blind, va_recv hG.1 hP (ci := 10) (q0 := 315) rfl (wl_at (by decide) hmo), fun U hU hW => ⟨rfl, by rw [hU]; exact hP, kG.warm hW hG⟩⟩ rfl rfl hl.1 rfl (lv_room (Nat.le_of_ble_eq_true rfl)) dX11_reads_249 ⟨Nat.le_of_ble_eq_true rfl, Nat.le_of_ble_eq_true rfl⟩) hS (fun f_12 H locs hq9 hP hS => ?_)
                    obtain ⟨sn911, wn912, sp913, wi914, hq_12_0, hq_12_1, hq_12_2, hx_12_0, hx_12_1, hx_12_2, hx_12_3, o_12⟩ := hq9
                    have hmo : f_12 315 = eO 10 [.ref (g 316), .ref (g 317), .ref (g 318), .long ab2, .long be2, .int (nI sn911), .ref (g 319), .ref (g 320), .int (nI wn912), .ref (g 321), .ref (g 322), .int sa, .int ly, .int rdy, .int fd, .ref (g 323), .ref (g 324), .ref (g 325), .ref (g 326), .ref (g 327), .ref (g 328), .ref (g 329), .ref (g 330), .ref (g 331), .ref (g 332)] := hq_12_0
                    have hsp_ : f_12 319 = eI G 70 sp913 := hq_12_1
                    have hwi_ : f_12 320 = eI G 70 wi914 := hq_12_2
                    refine lv_iconst (v := 1) hx hb dX11_reads_252 (by decide) ?_
                    refine my_bei (v := b2 (true = true)) ((b2_t rfl).symm) ?_
                    refine lv_istore (lv' := [(4, .int (b2 (true = true))), (0, .ref (g 315)), (1, .int (nI fr)), (2, .int (nI n)), (3, .int (nI op)), (5, .int (nI i2)), (7, .int (nI i)), (8, .int u)]) hx hb dX11_reads_253 hl (by decide) rfl (fun ls hl => ?_)
                    refine lv_goto (tgt := 372) hx hb dX11_reads_255 (by decide) ?_
                    refine lv_goto (tgt := 25) hx hb dX11_reads_372 (by decide) ?_
                    replace hss_ := ((o_12 316 (by first | decide | omega)).trans ((o_11 316 (by first | decide | omega)))).trans hss_
                    replace hwa_ := ((o_12 321 (by first | decide | omega))).trans hwa_
                    exact ih_1 i2 op true sn911 wn912 sp913 wi914 wa1 (fm2) f_12 _ _ _ (by omega) (by omega) (by omega) (by rw [hx_12_2, co_pop (by decide)]; exact hco) (by rw [hx_12_2]; exact vl_pop _ hvl) (fun _ => hx_12_3 (dep_v (hd0 hwf) (Or.inl rfl))) (fun z => Bool.noConfusion z) (by omega) (by rw [hx_12_2]; exact (rd_dn (c := fun k => ss (fr + k + 1)) (i := i2) (fun z => absurd z.1 (by omega))).symm.trans hA2) (by omega) (hmo) (hss_) (hsp_) (hwi_) (hwa_) (fun j hj => ((((o_12 j (by omega))).trans (o_11 j (by omega))).trans (o_10 j (by omega))).trans (o_3 j (by omega))) hP hS (lv_sub hl [1, 2, 3, 4, 0, 5] rfl)
                  · have k_166 : ¬ n ≤ i2 := fun z9 => c_166 ((nI_leI (a := n) (b := i2) (by omega) (by omega)).mpr z9)
                    refine lv_aload_n hx hb dX11_reads_169 rfl (lv_at hl 0 rfl) ?_
                    refine va_get (D := G.1) (ci := 10) (v := .ref (g 316)) (C := RX11) (T := TX11) (N := 25) hx hb hts inlX11 hown hG.1 hP 315 (wl_at (by decide) hmo) rfl 0 (by decide) (hts (.fieldLink RX11 7 "SwornListsModel" "st" "[I") w_112) (fun _ h9 => h9) rfl dX11_reads_170 ?_
                    refine lv_iload_n hx hb dX11_reads_173 rfl (lv_at hl 1 rfl) ?_
                    refine lv_iconst (v := 1) hx hb dX11_reads_174 (by decide) ?_
                    refine lv_iadd hx hb dX11_reads_175 ?_
                    refine my_bei (v := nI (fr + 1)) (nI_add fr 1) ?_
                    refine lv_iload hx hb dX11_reads_176 (lv_at hl 5 rfl) ?_
                    refine lv_iadd hx hb dX11_reads_178 ?_
                    refine my_bei (v := nI (fr + i2 + 1)) ((nI_add (fr + 1) i2).trans (congrArg nI (show (fr + 1) + i2 = fr + i2 + 1 by omega))) ?_
                    refine va_iald hx hb hG.1 hP 316 0 (wl_at (by decide) hss_) rfl (vp_in_nI (by omega) (by decide)) dX11_reads_179 ?_
                    refine my_bei (v := ss (fr + i2 + 1)) (congrArg ss (nI_clamp (n := fr + i2 + 1) (by omega))) ?_
                    refine lv_i2l hx hb dX11_reads_180 rfl ?_
                    refine lv_ldc2 (v := 48) hx hb hown (hts (.constantLong RX11 133 (48)) w_351) dX11_reads_181 ?_
                    refine my_bel (v := Int32.toInt64 48) (by decide) ?_
                    refine lv_ldc2 (v := 57) hx hb hown (hts (.constantLong RX11 135 (57)) w_352) dX11_reads_184 ?_
                    refine my_bel (v := Int32.toInt64 57) (by decide) ?_
                    refine rd_calli (va_runS (As := [.long (Int32.toInt64 (ss (fr + i2 + 1))), .long (Int32.toInt64 48), .long (Int32.toInt64 57)]) (rest := []) ⟨hx, hb, hml, hown, hts⟩ (r_in l G g hg f_10 (ss (fr + i2 + 1)) 48 57  ) (my_cwS hts ok_X11_in w_162 rfl rfl ⟨Nat.le_of_ble_eq_true rfl, Nat.le_of_ble_eq_true rfl⟩) ⟨bP.blind, fun U hU hW => ⟨rfl, by rw [hU]; exact hP, kG.warm hW hG⟩⟩ rfl rfl hl.1 rfl (lv_room (Nat.le_of_ble_eq_true rfl)) dX11_reads_187 ⟨Nat.le_of_ble_eq_true rfl, Nat.le_of_ble_eq_true rfl⟩) (fun r hr9 => ?_)
                    subst hr9
                    refine my_ifeq (tgt := 239) hx hb dX11_reads_190 (by decide) (fun c_190 => ?_) (fun c_190 => ?_)
                    · have hlt9 : i < i2 := by
                        rcases hf2 with ⟨h9, _⟩ | ⟨h9, _⟩
                        · rw [h9] at c_190; exact absurd c_153 c_190
                        · exact h9
                      refine lv_aload_n hx hb dX11_reads_239 rfl (lv_at hl 0 rfl) ?_
                      refine lv_iconst (v := 0) hx hb dX11_reads_240 (by decide) ?_
                      refine lv_iload hx hb dX11_reads_241 (lv_at hl 7 rfl) ?_
                      refine b_callv (va_runV (As := [.int 0, .int u]) (rest := []) ⟨hx, hb, hml, hown, hts⟩ (r_emits l G g hg f_10 ab2 be2 sn1 wn1 sa ly rdy fd sp1 wi1 0 u hmo hsp_ hwi_ (by first | assumption | omega | decide)) (my_cwV hts ok_X11_emits w_360 rfl rfl ⟨Nat.le_of_ble_eq_true rfl, Nat.le_of_ble_eq_true rfl⟩) ⟨bP.blind, va_recv hG.1 hP (ci := 10) (q0 := 315) rfl (wl_at (by decide) hmo), fun U hU hW => ⟨rfl, by rw [hU]; exact hP, kG.warm hW hG⟩⟩ rfl rfl hl.1 rfl (lv_room (Nat.le_of_ble_eq_true rfl)) dX11_reads_243 ⟨Nat.le_of_ble_eq_true rfl, Nat.le_of_ble_eq_true rfl⟩) hS (fun f_13 H locs hq9 hP hS => ?_)
                      obtain ⟨hq_13_0, hq_13_1, hq_13_2, o_13⟩ := hq9
                      have hmo : f_13 315 = eO 10 [.ref (g 316), .ref (g 317), .ref (g 318), .long ab2, .long be2, .int (nI (sn1 + 1)), .ref (g 319), .ref (g 320), .int (nI wn1), .ref (g 321), .ref (g 322), .int sa, .int ly, .int rdy, .int fd, .ref (g 323), .ref (g 324), .ref (g 325), .ref (g 326), .ref (g 327), .ref (g 328), .ref (g 329), .ref (g 330), .ref (g 331), .ref (g 332)] := hq_13_0
                      have hsp_ : f_13 319 = eI G 70 (upd sp1 sn1 0) := hq_13_1
                      have hwi_ : f_13 320 = eI G 70 (upd wi1 sn1 u) := hq_13_2
                      refine lv_aload_n hx hb dX11_reads_246 rfl (lv_at hl 0 rfl) ?_
                      refine lv_bipush (v := 6) hx hb dX11_reads_247 (by decide) ?_
                      replace hwa_ := ((o_13 321 (by first | decide | omega))).trans hwa_
                      refine b_callv (va_runV (As := [.int 6]) (rest := []) ⟨hx, hb, hml, hown, hts⟩ (r_settles l G g hg f_13 ab2 be2 (sn1 + 1) wn1 sa ly rdy fd (upd sp1 sn1 0) (upd wi1 sn1 u) wa1 6 hmo hsp_ hwi_ hwa_ (by first | assumption | omega | decide) (by decide)) (my_cwV hts ok_X11_settles w_353 rfl rfl ⟨Nat.le_of_ble_eq_true rfl, Nat.le_of_ble_eq_true rfl⟩) ⟨bP.blind, va_recv hG.1 hP (ci := 10) (q0 := 315) rfl (wl_at (by decide) hmo), fun U hU hW => ⟨rfl, by rw [hU]; exact hP, kG.warm hW hG⟩⟩ rfl rfl hl.1 rfl (lv_room (Nat.le_of_ble_eq_true rfl)) dX11_reads_249 ⟨Nat.le_of_ble_eq_true rfl, Nat.le_of_ble_eq_true rfl⟩) hS (fun f_14 H locs hq9 hP hS => ?_)
                      obtain ⟨sn915, wn916, sp917, wi918, hq_14_0, hq_14_1, hq_14_2, hx_14_0, hx_14_1, hx_14_2, hx_14_3, o_14⟩ := hq9
                      have hmo : f_14 315 = eO 10 [.ref (g 316), .ref (g 317), .ref (g 318), .long ab2, .long be2, .int (nI sn915), .ref (g 319), .ref (g 320), .int (nI wn916), .ref (g 321), .ref (g 322), .int sa, .int ly, .int rdy, .int fd, .ref (g 323), .ref (g 324), .ref (g 325), .ref (g 326), .ref (g 327), .ref (g 328), .ref (g 329), .ref (g 330), .ref (g 331), .ref (g 332)] := hq_14_0
                      have hsp_ : f_14 319 = eI G 70 sp917 := hq_14_1
                      have hwi_ : f_14 320 = eI G 70 wi918 := hq_14_2
                      refine lv_iconst (v := 1) hx hb dX11_reads_252 (by decide) ?_
                      refine my_bei (v := b2 (true = true)) ((b2_t rfl).symm) ?_
                      refine lv_istore (lv' := [(4, .int (b2 (true = true))), (0, .ref (g 315)), (1, .int (nI fr)), (2, .int (nI n)), (3, .int (nI op)), (5, .int (nI i2)), (7, .int (nI i)), (8, .int u)]) hx hb dX11_reads_253 hl (by decide) rfl (fun ls hl => ?_)
                      refine lv_goto (tgt := 372) hx hb dX11_reads_255 (by decide) ?_
                      refine lv_goto (tgt := 25) hx hb dX11_reads_372 (by decide) ?_
                      replace hss_ := ((o_14 316 (by first | decide | omega)).trans ((o_13 316 (by first | decide | omega)))).trans hss_
                      replace hwa_ := ((o_14 321 (by first | decide | omega))).trans hwa_
                      exact ih_1 i2 op true sn915 wn916 sp917 wi918 wa1 (fm2) f_14 _ _ _ (by omega) (by omega) (by omega) (by rw [hx_14_2, co_pop (by decide)]; exact hco) (by rw [hx_14_2]; exact vl_pop _ hvl) (fun _ => hx_14_3 (dep_v (hd0 hwf) (Or.inl rfl))) (fun z => Bool.noConfusion z) (by omega) (by rw [hx_14_2]; exact (rd_dn (c := fun k => ss (fr + k + 1)) (i := i2) (fun z => c_190 z.2)).symm.trans hA2) (by omega) (hmo) (hss_) (hsp_) (hwi_) (hwa_) (fun j hj => ((((o_14 j (by omega))).trans (o_13 j (by omega))).trans (o_10 j (by omega))).trans (o_3 j (by omega))) hP hS (lv_sub hl [1, 2, 3, 4, 0, 5] rfl)
                    · refine lv_iload hx hb dX11_reads_193 (lv_at hl 5 rfl) ?_
                      refine lv_iload hx hb dX11_reads_195 (lv_at hl 6 rfl) ?_
                      refine lv_isub hx hb dX11_reads_197 ?_
                      refine my_bei (v := nI (i2 - i)) (pk_sub (a := i2) (b := i) (by omega)) ?_
                      refine lv_bipush (v := 6) hx hb dX11_reads_198 (by decide) ?_
                      refine lv_icmp_ne (tgt := 211) hx hb dX11_reads_200 (by decide) (fun c_200 => ?_) (fun c_200 => ?_)
                      · have k_200 : ¬ i2 - i = 6 := fun z9 => c_200 ((nI_eq (a := i2 - i) (b := 6) (by omega) (by omega)).mpr z9)
                        refine lv_bipush (v := 10) hx hb dX11_reads_211 (by decide) ?_
                        refine lv_iload hx hb dX11_reads_213 (lv_at hl 7 rfl) ?_
                        refine lv_imul hx hb dX11_reads_215 ?_
                        refine lv_aload_n hx hb dX11_reads_216 rfl (lv_at hl 0 rfl) ?_
                        refine va_get (D := G.1) (ci := 10) (v := .ref (g 316)) (C := RX11) (T := TX11) (N := 25) hx hb hts inlX11 hown hG.1 hP 315 (wl_at (by decide) hmo) rfl 0 (by decide) (hts (.fieldLink RX11 7 "SwornListsModel" "st" "[I") w_112) (fun _ h9 => h9) rfl dX11_reads_217 ?_
                        refine lv_iload_n hx hb dX11_reads_220 rfl (lv_at hl 1 rfl) ?_
                        refine lv_iconst (v := 1) hx hb dX11_reads_221 (by decide) ?_
                        refine lv_iadd hx hb dX11_reads_222 ?_
                        refine my_bei (v := nI (fr + 1)) (nI_add fr 1) ?_
                        refine lv_iload hx hb dX11_reads_223 (lv_at hl 5 rfl) ?_
                        refine lv_iadd hx hb dX11_reads_225 ?_
                        refine my_bei (v := nI (fr + i2 + 1)) ((nI_add (fr + 1) i2).trans (congrArg nI (show (fr + 1) + i2 = fr + i2 + 1 by omega))) ?_
                        refine va_iald hx hb hG.1 hP 316 0 (wl_at (by decide) hss_) rfl (vp_in_nI (by omega) (by decide)) dX11_reads_226 ?_
                        refine my_bei (v := ss (fr + i2 + 1)) (congrArg ss (nI_clamp (n := fr + i2 + 1) (by omega))) ?_
                        refine lv_iadd hx hb dX11_reads_227 ?_
                        refine lv_bipush (v := 48) hx hb dX11_reads_228 (by decide) ?_
                        refine lv_isub hx hb dX11_reads_230 ?_
                        refine lv_istore (lv' := [(8, .int (((10 * u) + (ss (fr + i2 + 1))) - 48)), (0, .ref (g 315)), (1, .int (nI fr)), (2, .int (nI n)), (3, .int (nI op)), (4, .int (b2 (wh = true))), (5, .int (nI i2)), (7, .int (nI i))]) hx hb dX11_reads_231 hl (by decide) rfl (fun ls hl => ?_)
                        refine lv_iinc (v := nI (i2 + 1)) (lv' := [(5, .int (nI (i2 + 1))), (8, .int (((10 * u) + (ss (fr + i2 + 1))) - 48)), (0, .ref (g 315)), (1, .int (nI fr)), (2, .int (nI n)), (3, .int (nI op)), (4, .int (b2 (wh = true))), (7, .int (nI i))]) hx hb dX11_reads_233 hl (k := 6) rfl (nI_add i2 1) (by decide) rfl (fun ls hl => ?_)
                        refine lv_goto (tgt := 163) hx hb dX11_reads_236 (by decide) ?_
                        exact ih_10 (i2 + 1) (((10 * u) + (ss (fr + i2 + 1))) - 48) fm2 f_10 _ _ _ (by omega) (by omega) ((rd_dg (c := fun k => ss (fr + k + 1)) (i := i2) (by omega) c_190 (by omega)).symm.trans hA2) (by omega) (hmo) (hss_) (hsp_) (hwi_) (hwa_) (fun j hj => (o_10 j (by omega))) hP hS (lv_sub hl [2, 3, 4, 5, 6, 0, 7, 1] rfl)
                      · have k_200 : i2 - i = 6 := (nI_eq (a := i2 - i) (b := 6) (by omega) (by omega)).mp c_200
                        refine lv_bipush (v := 10) hx hb dX11_reads_203 (by decide) ?_
                        refine lv_iload hx hb dX11_reads_205 (lv_at hl 6 rfl) ?_
                        refine lv_imul hx hb dX11_reads_207 ?_
                        refine my_bei (v := nI (10 * i)) (pk_mul 10 i) ?_
                        refine lv_iconst (v := 2) hx hb dX11_reads_208 (by decide) ?_
                        refine lv_iadd hx hb dX11_reads_209 ?_
                        refine my_bei (v := nI (10 * i + 2)) ((nI_add (10 * i) 2).trans (congrArg nI (show (10 * i) + 2 = 10 * i + 2 by omega))) ?_
                        have heq : nI (10 * i + 2) = rdA n (fun k => ss (fr + k + 1)) := (rd_d6 (c := fun k => ss (fr + k + 1)) (i := i2) (by omega) c_190 (by omega)).symm.trans hA2
                        exact W.iret (v := nI (10 * i + 2)) hx hb hr (fun t ht hW => ⟨⟨_, f_10, rfl, (⟨sn1, wn1, sp1, wi1, wa1, heq, hmo, hsp_, hwi_, hwa_, fun z => absurd (heq.trans z) (nI_m1 (by omega)), fun j hj => ((((o_10 j (by omega))).trans (o_3 j (by omega))).trans (o_2 j (by omega))).trans (o_1 j (by omega))⟩), by rw [ht]; exact hP⟩, hS.F ht⟩) hS.2.2 dX11_reads_210
              exact key10 (n + 1) i 0 fm f_3 _ _ _ (⟨Nat.le_refl _, hi⟩) (Or.inl ⟨rfl, by omega⟩) ((rd_rn (c := fun k => ss (fr + k + 1)) (i := i) (by omega) c_48 c_59 c_153).symm.trans hA) (by omega) (hmo) (hss_) (hsp_) (hwi_) (hwa_) (fun j _ => rfl) hP hS (lv_sub hl [3, 4, 5, 6, 7, 8, 1, 0] rfl)
          · refine lv_iload hx hb dX11_reads_62 (lv_at hl 0 rfl) ?_
            refine lv_bipush (v := 41) hx hb dX11_reads_64 (by decide) ?_
            refine lv_icmp_ne (tgt := 100) hx hb dX11_reads_66 (by decide) (fun c_66 => ?_) (fun c_66 => ?_)
            · refine lv_iload hx hb dX11_reads_100 (lv_at hl 0 rfl) ?_
              refine rd_calli (va_runS (As := [.int (ss (fr + i + 1))]) (rest := []) ⟨hx, hb, hml, hown, hts⟩ (r_signOf l G g hg f_3 (ss (fr + i + 1))  ) (my_cwS hts ok_X11_signOf w_364 rfl rfl ⟨Nat.le_of_ble_eq_true rfl, Nat.le_of_ble_eq_true rfl⟩) ⟨bP.blind, fun U hU hW => ⟨rfl, by rw [hU]; exact hP, kG.warm hW hG⟩⟩ rfl rfl hl.1 rfl (lv_room (Nat.le_of_ble_eq_true rfl)) dX11_reads_102 ⟨Nat.le_of_ble_eq_true rfl, Nat.le_of_ble_eq_true rfl⟩) (fun r hr9 => ?_)
              subst hr9
              refine lv_iconst (v := (-1)) hx hb dX11_reads_105 (by decide) ?_
              refine lv_icmp_eq (tgt := 127) hx hb dX11_reads_106 (by decide) (fun c_106 => ?_) (fun c_106 => ?_)
              · refine lv_bipush (v := 10) hx hb dX11_reads_127 (by decide) ?_
                refine lv_iload hx hb dX11_reads_129 (lv_at hl 6 rfl) ?_
                refine lv_imul hx hb dX11_reads_131 ?_
                refine my_bei (v := nI (10 * i)) (pk_mul 10 i) ?_
                refine lv_iconst (v := 1) hx hb dX11_reads_132 (by decide) ?_
                refine lv_iadd hx hb dX11_reads_133 ?_
                refine my_bei (v := nI (10 * i + 1)) ((nI_add (10 * i) 1).trans (congrArg nI (show (10 * i) + 1 = 10 * i + 1 by omega))) ?_
                have heq : nI (10 * i + 1) = rdA n (fun k => ss (fr + k + 1)) := (rd_b1 (c := fun k => ss (fr + k + 1)) (i := i) (by omega) c_48 c_59 (fun z => c_66 z.1) c_106).symm.trans hA
                exact W.iret (v := nI (10 * i + 1)) hx hb hr (fun t ht hW => ⟨⟨_, f_3, rfl, (⟨sn1, wn1, sp1, wi1, wa1, heq, hmo, hsp_, hwi_, hwa_, fun z => absurd (heq.trans z) (nI_m1 (by omega)), fun j hj => (((o_3 j (by omega))).trans (o_2 j (by omega))).trans (o_1 j (by omega))⟩), by rw [ht]; exact hP⟩, hS.F ht⟩) hS.2.2 dX11_reads_134
              · refine lv_aload_n hx hb dX11_reads_109 rfl (lv_at hl 1 rfl) ?_
                refine lv_iload hx hb dX11_reads_110 (lv_at hl 0 rfl) ?_
                refine rd_calli (va_runS (As := [.int (ss (fr + i + 1))]) (rest := [.ref (g 315)]) ⟨hx, hb, hml, hown, hts⟩ (r_signOf l G g hg f_3 (ss (fr + i + 1))  ) (my_cwS hts ok_X11_signOf w_364 rfl rfl ⟨Nat.le_of_ble_eq_true rfl, Nat.le_of_ble_eq_true rfl⟩) ⟨bP.blind, fun U hU hW => ⟨rfl, by rw [hU]; exact hP, kG.warm hW hG⟩⟩ rfl rfl hl.1 rfl (lv_room (Nat.le_of_ble_eq_true rfl)) dX11_reads_112 ⟨Nat.le_of_ble_eq_true rfl, Nat.le_of_ble_eq_true rfl⟩) (fun r hr9 => ?_)
                subst hr9
                refine b_calli (va_runV (As := [.int (sgn (ss (fr + i + 1)))]) (rest := []) ⟨hx, hb, hml, hown, hts⟩ (r_goesOn l G g hg f_3 ab2 be2 sn1 wn1 sa ly rdy fd sp1 wi1 wa1 (sgn (ss (fr + i + 1))) hmo hsp_ hwi_ hwa_ (by first | assumption | omega | decide) ((sgn_ok c_106).1) ((sgn_ok c_106).2.2.1) ((sgn_ok c_106).2.2.2.1) ((sgn_ok c_106).2.2.2.2) (hd1 c_59)) (my_cwV hts ok_X11_goesOn w_367 rfl rfl ⟨Nat.le_of_ble_eq_true rfl, Nat.le_of_ble_eq_true rfl⟩) ⟨bP.blind, va_recv hG.1 hP (ci := 10) (q0 := 315) rfl (wl_at (by decide) hmo), fun U hU hW => ⟨rfl, by rw [hU]; exact hP, kG.warm hW hG⟩⟩ rfl rfl hl.1 rfl (lv_room (Nat.le_of_ble_eq_true rfl)) dX11_reads_115 ⟨Nat.le_of_ble_eq_true rfl, Nat.le_of_ble_eq_true rfl⟩) hS (fun v19 f_15 H locs hq9 hP hS => ?_)
                obtain ⟨sn920, wn921, sp922, wi923, wa924, bz25, rfl, hq_15_0, hq_15_1, hq_15_2, hq_15_3, hx_15_0, hx_15_1, hx_15_2, o_15⟩ := hq9
                have hmo : f_15 315 = eO 10 [.ref (g 316), .ref (g 317), .ref (g 318), .long ab2, .long be2, .int (nI sn920), .ref (g 319), .ref (g 320), .int (nI wn921), .ref (g 321), .ref (g 322), .int sa, .int ly, .int rdy, .int fd, .ref (g 323), .ref (g 324), .ref (g 325), .ref (g 326), .ref (g 327), .ref (g 328), .ref (g 329), .ref (g 330), .ref (g 331), .ref (g 332)] := hq_15_0
                have hsp_ : f_15 319 = eI G 70 sp922 := hq_15_1
                have hwi_ : f_15 320 = eI G 70 wi923 := hq_15_2
                have hwa_ : f_15 321 = eI G 70 wa924 := hq_15_3
                refine my_ifeq (tgt := 127) hx hb dX11_reads_118 (by decide) (fun c_118 => ?_) (fun c_118 => ?_)
                · refine lv_bipush (v := 10) hx hb dX11_reads_127 (by decide) ?_
                  refine lv_iload hx hb dX11_reads_129 (lv_at hl 6 rfl) ?_
                  refine lv_imul hx hb dX11_reads_131 ?_
                  refine my_bei (v := nI (10 * i)) (pk_mul 10 i) ?_
                  refine lv_iconst (v := 1) hx hb dX11_reads_132 (by decide) ?_
                  refine lv_iadd hx hb dX11_reads_133 ?_
                  refine my_bei (v := nI (10 * i + 1)) ((nI_add (10 * i) 1).trans (congrArg nI (show (10 * i) + 1 = 10 * i + 1 by omega))) ?_
                  have heq : nI (10 * i + 1) = rdA n (fun k => ss (fr + k + 1)) := (rd_g0 (c := fun k => ss (fr + k + 1)) (i := i) (by omega) c_48 c_59 (fun z => c_66 z.1) c_106 (hx_15_2 (by simpa using c_118))).symm.trans hA
                  exact W.iret (v := nI (10 * i + 1)) hx hb hr (fun t ht hW => ⟨⟨_, f_15, rfl, (⟨sn920, wn921, sp922, wi923, wa924, heq, hmo, hsp_, hwi_, hwa_, fun z => absurd (heq.trans z) (nI_m1 (by omega)), fun j hj => ((((o_15 j (by omega))).trans (o_3 j (by omega))).trans (o_2 j (by omega))).trans (o_1 j (by omega))⟩), by rw [ht]; exact hP⟩, hS.F ht⟩) hS.2.2 dX11_reads_134
                · refine lv_iconst (v := 0) hx hb dX11_reads_121 (by decide) ?_
                  refine my_bei (v := b2 (false = true)) ((b2_f (by decide)).symm) ?_
                  refine lv_istore (lv' := [(4, .int (b2 (false = true))), (6, .int (ss (fr + i + 1))), (0, .ref (g 315)), (1, .int (nI fr)), (2, .int (nI n)), (3, .int (nI op)), (5, .int (nI i))]) hx hb dX11_reads_122 hl (by decide) rfl (fun ls hl => ?_)
                  refine lv_goto (tgt := 135) hx hb dX11_reads_124 (by decide) ?_
                  refine lv_iinc (v := nI (i + 1)) (lv' := [(5, .int (nI (i + 1))), (4, .int (b2 (false = true))), (6, .int (ss (fr + i + 1))), (0, .ref (g 315)), (1, .int (nI fr)), (2, .int (nI n)), (3, .int (nI op))]) hx hb dX11_reads_135 hl (k := 6) rfl (nI_add i 1) (by decide) rfl (fun ls hl => ?_)
                  refine lv_goto (tgt := 372) hx hb dX11_reads_138 (by decide) ?_
                  refine lv_goto (tgt := 25) hx hb dX11_reads_372 (by decide) ?_
                  replace hss_ := ((o_15 316 (by first | decide | omega))).trans hss_
                  exact ih_1 (i + 1) op false sn920 wn921 sp922 wi923 wa924 (fm) f_15 _ _ _ (by omega) (by omega) (by omega) ((gOn_co (sgn_ok c_106).1 (sgn_ok c_106).2.2.1 (hx_15_1 c_118).1).trans hco) (gOn_vl (sgn_ok c_106).1 hvl (hx_15_1 c_118).1) (fun z => Bool.noConfusion z) (fun _ => (hx_15_1 c_118).2) (by omega) ((rd_g1 (c := fun k => ss (fr + k + 1)) (i := i) (by omega) c_48 c_59 (fun z => c_66 z.1) c_106 (hx_15_1 c_118).1).symm.trans hA) (by omega) (hmo) (hss_) (hsp_) (hwi_) (hwa_) (fun j hj => ((o_15 j (by omega))).trans (o_3 j (by omega))) hP hS (lv_sub hl [3, 4, 5, 6, 1, 0] rfl)
            · refine lv_iload_n hx hb dX11_reads_69 rfl (lv_at hl 4 rfl) ?_
              refine lv_if_le (tgt := 100) hx hb dX11_reads_70 (by decide) (fun c_70 => ?_) (fun c_70 => ?_)
              · have k_70 : op ≤ 0 := (nI_leI (a := op) (b := 0) (by omega) (by omega)).mp c_70
                refine lv_iload hx hb dX11_reads_100 (lv_at hl 0 rfl) ?_
                refine rd_calli (va_runS (As := [.int (ss (fr + i + 1))]) (rest := []) ⟨hx, hb, hml, hown, hts⟩ (r_signOf l G g hg f_3 (ss (fr + i + 1))  ) (my_cwS hts ok_X11_signOf w_364 rfl rfl ⟨Nat.le_of_ble_eq_true rfl, Nat.le_of_ble_eq_true rfl⟩) ⟨bP.blind, fun U hU hW => ⟨rfl, by rw [hU]; exact hP, kG.warm hW hG⟩⟩ rfl rfl hl.1 rfl (lv_room (Nat.le_of_ble_eq_true rfl)) dX11_reads_102 ⟨Nat.le_of_ble_eq_true rfl, Nat.le_of_ble_eq_true rfl⟩) (fun r hr9 => ?_)
                subst hr9
                refine lv_iconst (v := (-1)) hx hb dX11_reads_105 (by decide) ?_
                refine lv_icmp_eq (tgt := 127) hx hb dX11_reads_106 (by decide) (fun c_106 => ?_) (fun c_106 => ?_)
                · refine lv_bipush (v := 10) hx hb dX11_reads_127 (by decide) ?_
                  refine lv_iload hx hb dX11_reads_129 (lv_at hl 6 rfl) ?_
                  refine lv_imul hx hb dX11_reads_131 ?_
                  refine my_bei (v := nI (10 * i)) (pk_mul 10 i) ?_
                  refine lv_iconst (v := 1) hx hb dX11_reads_132 (by decide) ?_
                  refine lv_iadd hx hb dX11_reads_133 ?_
                  refine my_bei (v := nI (10 * i + 1)) ((nI_add (10 * i) 1).trans (congrArg nI (show (10 * i) + 1 = 10 * i + 1 by omega))) ?_
                  have heq : nI (10 * i + 1) = rdA n (fun k => ss (fr + k + 1)) := (rd_b1 (c := fun k => ss (fr + k + 1)) (i := i) (by omega) c_48 c_59 (fun z => absurd z.2 (by omega)) c_106).symm.trans hA
                  exact W.iret (v := nI (10 * i + 1)) hx hb hr (fun t ht hW => ⟨⟨_, f_3, rfl, (⟨sn1, wn1, sp1, wi1, wa1, heq, hmo, hsp_, hwi_, hwa_, fun z => absurd (heq.trans z) (nI_m1 (by omega)), fun j hj => (((o_3 j (by omega))).trans (o_2 j (by omega))).trans (o_1 j (by omega))⟩), by rw [ht]; exact hP⟩, hS.F ht⟩) hS.2.2 dX11_reads_134
                · refine lv_aload_n hx hb dX11_reads_109 rfl (lv_at hl 1 rfl) ?_
                  refine lv_iload hx hb dX11_reads_110 (lv_at hl 0 rfl) ?_
                  refine rd_calli (va_runS (As := [.int (ss (fr + i + 1))]) (rest := [.ref (g 315)]) ⟨hx, hb, hml, hown, hts⟩ (r_signOf l G g hg f_3 (ss (fr + i + 1))  ) (my_cwS hts ok_X11_signOf w_364 rfl rfl ⟨Nat.le_of_ble_eq_true rfl, Nat.le_of_ble_eq_true rfl⟩) ⟨bP.blind, fun U hU hW => ⟨rfl, by rw [hU]; exact hP, kG.warm hW hG⟩⟩ rfl rfl hl.1 rfl (lv_room (Nat.le_of_ble_eq_true rfl)) dX11_reads_112 ⟨Nat.le_of_ble_eq_true rfl, Nat.le_of_ble_eq_true rfl⟩) (fun r hr9 => ?_)
                  subst hr9
                  refine b_calli (va_runV (As := [.int (sgn (ss (fr + i + 1)))]) (rest := []) ⟨hx, hb, hml, hown, hts⟩ (r_goesOn l G g hg f_3 ab2 be2 sn1 wn1 sa ly rdy fd sp1 wi1 wa1 (sgn (ss (fr + i + 1))) hmo hsp_ hwi_ hwa_ (by first | assumption | omega | decide) ((sgn_ok c_106).1) ((sgn_ok c_106).2.2.1) ((sgn_ok c_106).2.2.2.1) ((sgn_ok c_106).2.2.2.2) (hd1 c_59)) (my_cwV hts ok_X11_goesOn w_367 rfl rfl ⟨Nat.le_of_ble_eq_true rfl, Nat.le_of_ble_eq_true rfl⟩) ⟨bP.blind, va_recv hG.1 hP (ci := 10) (q0 := 315) rfl (wl_at (by decide) hmo), fun U hU hW => ⟨rfl, by rw [hU]; exact hP, kG.warm hW hG⟩⟩ rfl rfl hl.1 rfl (lv_room (Nat.le_of_ble_eq_true rfl)) dX11_reads_115 ⟨Nat.le_of_ble_eq_true rfl, Nat.le_of_ble_eq_true rfl⟩) hS (fun v26 f_16 H locs hq9 hP hS => ?_)
                  obtain ⟨sn927, wn928, sp929, wi930, wa931, bz32, rfl, hq_16_0, hq_16_1, hq_16_2, hq_16_3, hx_16_0, hx_16_1, hx_16_2, o_16⟩ := hq9
                  have hmo : f_16 315 = eO 10 [.ref (g 316), .ref (g 317), .ref (g 318), .long ab2, .long be2, .int (nI sn927), .ref (g 319), .ref (g 320), .int (nI wn928), .ref (g 321), .ref (g 322), .int sa, .int ly, .int rdy, .int fd, .ref (g 323), .ref (g 324), .ref (g 325), .ref (g 326), .ref (g 327), .ref (g 328), .ref (g 329), .ref (g 330), .ref (g 331), .ref (g 332)] := hq_16_0
                  have hsp_ : f_16 319 = eI G 70 sp929 := hq_16_1
                  have hwi_ : f_16 320 = eI G 70 wi930 := hq_16_2
                  have hwa_ : f_16 321 = eI G 70 wa931 := hq_16_3
                  refine my_ifeq (tgt := 127) hx hb dX11_reads_118 (by decide) (fun c_118 => ?_) (fun c_118 => ?_)
                  · refine lv_bipush (v := 10) hx hb dX11_reads_127 (by decide) ?_
                    refine lv_iload hx hb dX11_reads_129 (lv_at hl 6 rfl) ?_
                    refine lv_imul hx hb dX11_reads_131 ?_
                    refine my_bei (v := nI (10 * i)) (pk_mul 10 i) ?_
                    refine lv_iconst (v := 1) hx hb dX11_reads_132 (by decide) ?_
                    refine lv_iadd hx hb dX11_reads_133 ?_
                    refine my_bei (v := nI (10 * i + 1)) ((nI_add (10 * i) 1).trans (congrArg nI (show (10 * i) + 1 = 10 * i + 1 by omega))) ?_
                    have heq : nI (10 * i + 1) = rdA n (fun k => ss (fr + k + 1)) := (rd_g0 (c := fun k => ss (fr + k + 1)) (i := i) (by omega) c_48 c_59 (fun z => absurd z.2 (by omega)) c_106 (hx_16_2 (by simpa using c_118))).symm.trans hA
                    exact W.iret (v := nI (10 * i + 1)) hx hb hr (fun t ht hW => ⟨⟨_, f_16, rfl, (⟨sn927, wn928, sp929, wi930, wa931, heq, hmo, hsp_, hwi_, hwa_, fun z => absurd (heq.trans z) (nI_m1 (by omega)), fun j hj => ((((o_16 j (by omega))).trans (o_3 j (by omega))).trans (o_2 j (by omega))).trans (o_1 j (by omega))⟩), by rw [ht]; exact hP⟩, hS.F ht⟩) hS.2.2 dX11_reads_134
                  · refine lv_iconst (v := 0) hx hb dX11_reads_121 (by decide) ?_
                    refine my_bei (v := b2 (false = true)) ((b2_f (by decide)).symm) ?_
                    refine lv_istore (lv' := [(4, .int (b2 (false = true))), (6, .int (ss (fr + i + 1))), (0, .ref (g 315)), (1, .int (nI fr)), (2, .int (nI n)), (3, .int (nI op)), (5, .int (nI i))]) hx hb dX11_reads_122 hl (by decide) rfl (fun ls hl => ?_)
                    refine lv_goto (tgt := 135) hx hb dX11_reads_124 (by decide) ?_
                    refine lv_iinc (v := nI (i + 1)) (lv' := [(5, .int (nI (i + 1))), (4, .int (b2 (false = true))), (6, .int (ss (fr + i + 1))), (0, .ref (g 315)), (1, .int (nI fr)), (2, .int (nI n)), (3, .int (nI op))]) hx hb dX11_reads_135 hl (k := 6) rfl (nI_add i 1) (by decide) rfl (fun ls hl => ?_)
                    refine lv_goto (tgt := 372) hx hb dX11_reads_138 (by decide) ?_
                    refine lv_goto (tgt := 25) hx hb dX11_reads_372 (by decide) ?_
                    replace hss_ := ((o_16 316 (by first | decide | omega))).trans hss_
                    exact ih_1 (i + 1) op false sn927 wn928 sp929 wi930 wa931 (fm) f_16 _ _ _ (by omega) (by omega) (by omega) ((gOn_co (sgn_ok c_106).1 (sgn_ok c_106).2.2.1 (hx_16_1 c_118).1).trans hco) (gOn_vl (sgn_ok c_106).1 hvl (hx_16_1 c_118).1) (fun z => Bool.noConfusion z) (fun _ => (hx_16_1 c_118).2) (by omega) ((rd_g1 (c := fun k => ss (fr + k + 1)) (i := i) (by omega) c_48 c_59 (fun z => absurd z.2 (by omega)) c_106 (hx_16_1 c_118).1).symm.trans hA) (by omega) (hmo) (hss_) (hsp_) (hwi_) (hwa_) (fun j hj => ((o_16 j (by omega))).trans (o_3 j (by omega))) hP hS (lv_sub hl [3, 4, 5, 6, 1, 0] rfl)
              · have k_70 : ¬ op ≤ 0 := fun z9 => c_70 ((nI_leI (a := op) (b := 0) (by omega) (by omega)).mpr z9)
                refine lv_aload_n hx hb dX11_reads_73 rfl (lv_at hl 1 rfl) ?_
                refine lv_iconst (v := 1) hx hb dX11_reads_74 (by decide) ?_
                refine b_callv (va_runV (As := [.int 1]) (rest := []) ⟨hx, hb, hml, hown, hts⟩ (r_settles l G g hg f_3 ab2 be2 sn1 wn1 sa ly rdy fd sp1 wi1 wa1 1 hmo hsp_ hwi_ hwa_ (by first | assumption | omega | decide) (by decide)) (my_cwV hts ok_X11_settles w_353 rfl rfl ⟨Nat.le_of_ble_eq_true rfl, Nat.le_of_ble_eq_true rfl⟩) ⟨bP.blind, va_recv hG.1 hP (ci := 10) (q0 := 315) rfl (wl_at (by decide) hmo), fun U hU hW => ⟨rfl, by rw [hU]; exact hP, kG.warm hW hG⟩⟩ rfl rfl hl.1 rfl (lv_room (Nat.le_of_ble_eq_true rfl)) dX11_reads_75 ⟨Nat.le_of_ble_eq_true rfl, Nat.le_of_ble_eq_true rfl⟩) hS (fun f_17 H locs hq9 hP hS => ?_)
                obtain ⟨sn933, wn934, sp935, wi936, hq_17_0, hq_17_1, hq_17_2, hx_17_0, hx_17_1, hx_17_2, hx_17_3, o_17⟩ := hq9
                have hmo : f_17 315 = eO 10 [.ref (g 316), .ref (g 317), .ref (g 318), .long ab2, .long be2, .int (nI sn933), .ref (g 319), .ref (g 320), .int (nI wn934), .ref (g 321), .ref (g 322), .int sa, .int ly, .int rdy, .int fd, .ref (g 323), .ref (g 324), .ref (g 325), .ref (g 326), .ref (g 327), .ref (g 328), .ref (g 329), .ref (g 330), .ref (g 331), .ref (g 332)] := hq_17_0
                have hsp_ : f_17 319 = eI G 70 sp935 := hq_17_1
                have hwi_ : f_17 320 = eI G 70 wi936 := hq_17_2
                have hcl := close1 hvl hco (by omega) hx_17_2
                have hcl0 := hcl.1
                refine lv_aload_n hx hb dX11_reads_78 rfl (lv_at hl 1 rfl) ?_
                refine lv_dup hx hb dX11_reads_79 rfl ?_
                refine va_get (D := G.1) (ci := 10) (v := .int (nI wn934)) (C := RX11) (T := TX11) (N := 25) hx hb hts inlX11 hown hG.1 hP 315 (wl_at (by decide) hmo) rfl 8 (by decide) (hts (.fieldLink RX11 110 "SwornListsModel" "waiting" "I") w_350) (fun _ h9 => h9) rfl dX11_reads_80 ?_
                refine lv_iconst (v := 1) hx hb dX11_reads_83 (by decide) ?_
                refine lv_isub hx hb dX11_reads_84 ?_
                refine my_bei (v := nI (wn934 - 1)) (pk_sub (a := wn934) (b := 1) (by omega)) ?_
                refine va_put (D := G.1) (ci := 10) (v := .int (nI (wn934 - 1))) (ty := .int) (C := RX11) (T := TX11) (N := 25) hx hb hts inlX11 tyX11 tyX11_ok nmX11 hown hG.1 hP (wl_D hg f_17) hS 315 (wl_at (by decide) hmo) rfl 8 (by decide) (hts (.fieldLink RX11 110 "SwornListsModel" "waiting" "I") w_350) (fun _ h9 => h9) rfl (by decide +kernel) rfl rfl (Nat.le_of_ble_eq_true rfl) dX11_reads_85 (fun H locs hP _ hS => ?_)
                obtain ⟨f_18, hP, e_18, o_18⟩ := b_put (by decide) hP
                have hmo : f_18 315 = eO 10 [.ref (g 316), .ref (g 317), .ref (g 318), .long ab2, .long be2, .int (nI sn933), .ref (g 319), .ref (g 320), .int (nI (wn934 - 1)), .ref (g 321), .ref (g 322), .int sa, .int ly, .int rdy, .int fd, .ref (g 323), .ref (g 324), .ref (g 325), .ref (g 326), .ref (g 327), .ref (g 328), .ref (g 329), .ref (g 330), .ref (g 331), .ref (g 332)] := e_18
                refine lv_iinc (v := nI (op - 1)) (lv' := [(3, .int (nI (op - 1))), (6, .int (ss (fr + i + 1))), (0, .ref (g 315)), (1, .int (nI fr)), (2, .int (nI n)), (4, .int (b2 (wh = true))), (5, .int (nI i))]) hx hb dX11_reads_88 hl (k := 4) rfl (sb_m1 (by omega)) (by decide) rfl (fun ls hl => ?_)
                refine lv_aload_n hx hb dX11_reads_91 rfl (lv_at hl 2 rfl) ?_
                refine lv_bipush (v := 6) hx hb dX11_reads_92 (by decide) ?_
                replace hsp_ := ((o_18 319 (by decide))).trans hsp_
                replace hwi_ := ((o_18 320 (by decide))).trans hwi_
                replace hwa_ := ((o_18 321 (by decide)).trans ((o_17 321 (by first | decide | omega)))).trans hwa_
                refine b_callv (va_runV (As := [.int 6]) (rest := []) ⟨hx, hb, hml, hown, hts⟩ (r_settles l G g hg f_18 ab2 be2 sn933 (wn934 - 1) sa ly rdy fd sp935 wi936 wa1 6 hmo hsp_ hwi_ hwa_ (by first | assumption | omega | decide) (by decide)) (my_cwV hts ok_X11_settles w_353 rfl rfl ⟨Nat.le_of_ble_eq_true rfl, Nat.le_of_ble_eq_true rfl⟩) ⟨bP.blind, va_recv hG.1 hP (ci := 10) (q0 := 315) rfl (wl_at (by decide) hmo), fun U hU hW => ⟨rfl, by rw [hU]; exact hP, kG.warm hW hG⟩⟩ rfl rfl hl.1 rfl (lv_room (Nat.le_of_ble_eq_true rfl)) dX11_reads_94 ⟨Nat.le_of_ble_eq_true rfl, Nat.le_of_ble_eq_true rfl⟩) hS (fun f_19 H locs hq9 hP hS => ?_)
                obtain ⟨sn937, wn938, sp939, wi940, hq_19_0, hq_19_1, hq_19_2, hx_19_0, hx_19_1, hx_19_2, hx_19_3, o_19⟩ := hq9
                have hmo : f_19 315 = eO 10 [.ref (g 316), .ref (g 317), .ref (g 318), .long ab2, .long be2, .int (nI sn937), .ref (g 319), .ref (g 320), .int (nI wn938), .ref (g 321), .ref (g 322), .int sa, .int ly, .int rdy, .int fd, .ref (g 323), .ref (g 324), .ref (g 325), .ref (g 326), .ref (g 327), .ref (g 328), .ref (g 329), .ref (g 330), .ref (g 331), .ref (g 332)] := hq_19_0
                have hsp_ : f_19 319 = eI G 70 sp939 := hq_19_1
                have hwi_ : f_19 320 = eI G 70 wi940 := hq_19_2
                refine lv_goto (tgt := 135) hx hb dX11_reads_97 (by decide) ?_
                refine lv_iinc (v := nI (i + 1)) (lv' := [(5, .int (nI (i + 1))), (3, .int (nI (op - 1))), (6, .int (ss (fr + i + 1))), (0, .ref (g 315)), (1, .int (nI fr)), (2, .int (nI n)), (4, .int (b2 (wh = true)))]) hx hb dX11_reads_135 hl (k := 6) rfl (nI_add i 1) (by decide) rfl (fun ls hl => ?_)
                refine lv_goto (tgt := 372) hx hb dX11_reads_138 (by decide) ?_
                refine lv_goto (tgt := 25) hx hb dX11_reads_372 (by decide) ?_
                replace hss_ := ((o_19 316 (by first | decide | omega)).trans ((o_18 316 (by decide)).trans ((o_17 316 (by first | decide | omega))))).trans hss_
                replace hwa_ := ((o_19 321 (by first | decide | omega))).trans hwa_
                exact ih_1 (i + 1) (op - 1) wh sn937 wn938 sp939 wi940 wa1 (fm) f_19 _ _ _ (by omega) (by omega) (by omega) (by rw [hx_19_2, co_pop (by decide)]; have := hcl.2.2.1; omega) (by rw [hx_19_2]; exact vl_pop _ hcl.2.2.2.1) (fun _ => hx_19_3 (by rw [← hcl.2.2.2.2]; exact hx_17_3 (hd1 c_59))) (fun z => absurd (z.symm.trans rfl) (by rw [c_59]; decide)) (by omega) (by rw [hx_19_2, hcl.2.1]; exact (rd_cl (c := fun k => ss (fr + k + 1)) (i := i) (by omega) c_48 c_59 c_66 (by omega)).symm.trans hA) (by omega) (hmo) (hss_) (hsp_) (hwi_) (hwa_) (fun j hj => ((((o_19 j (by omega))).trans (o_18 j (by omega))).trans (o_17 j (by omega))).trans (o_3 j (by omega))) hP hS (lv_sub hl [3, 4, 5, 1, 6, 0] rfl)
        · refine lv_iinc (v := nI (i + 1)) (lv' := [(5, .int (nI (i + 1))), (6, .int (ss (fr + i + 1))), (0, .ref (g 315)), (1, .int (nI fr)), (2, .int (nI n)), (3, .int (nI op)), (4, .int (b2 (wh = true)))]) hx hb dX11_reads_51 hl (k := 6) rfl (nI_add i 1) (by decide) rfl (fun ls hl => ?_)
          refine lv_goto (tgt := 372) hx hb dX11_reads_54 (by decide) ?_
          refine lv_goto (tgt := 25) hx hb dX11_reads_372 (by decide) ?_
          exact ih_1 (i + 1) op wh sn1 wn1 sp1 wi1 wa1 (fm) f_3 _ _ _ (by omega) (by omega) (by omega) (hco) (hvl) (hd1) (hd0) (by omega) ((rd_sp (c := fun k => ss (fr + k + 1)) (i := i) (by omega) c_48).symm.trans hA) (by omega) (hmo) (hss_) (hsp_) (hwi_) (hwa_) (fun j hj => (o_3 j (by omega))) hP hS (lv_sub hl [2, 3, 4, 5, 6, 0] rfl)
  exact key1 (n + 1) 0 0 false 0 0 sp wi wa (3 * n + 1) f_2 _ _ _ (Nat.zero_le _) (Nat.zero_le _) (Nat.zero_le _) (rfl) (trivial) (fun z => Bool.noConfusion z) (fun _ => rfl) (by omega) (rfl) (by omega) (hmo) (hss_) (hsp_) (hwi_) (hwa_) (fun j _ => rfl) hP hS (lv_sub hl [4, 5, 3, 2, 1, 0] rfl)

